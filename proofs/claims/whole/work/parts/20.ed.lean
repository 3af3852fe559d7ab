/-! L_law -/
set_option maxRecDepth 20000 in
theorem e148_0 (ls st : List AV) (σ : St) : run 148 0 (ls) (st) σ = run 148 3 (ls) (vR (nn σ + 1) :: st) (al σ 2 7) := (run_eq 148 0 _ _ σ).trans rfl
set_option maxRecDepth 20000 in
theorem e148_3 (ls st : List AV) (σ : St) (x : Nat) : run 148 3 ls (vR x :: st) σ = run 148 4 ls (vR x :: vR x :: st) σ := (run_eq 148 3 _ _ σ).trans rfl
set_option maxRecDepth 20000 in
theorem e148_4 (ls st : List AV) (σ : St) (x0 : Nat) (h4 : st.length ≤ 4) (h : 1 ≤ x0) : run 148 4 ls (vR x0 :: st) σ = bnd (run 0 0 [vR x0] [] σ) (fun r σ => run 148 7 ls (psh r st) σ) := (run_eq 148 4 _ _ σ).trans (if_pos ⟨rfl, by simp, by simpa using h4, rfl, h⟩)
set_option maxRecDepth 20000 in
theorem e148_7 (a0 : AV) (l st : List AV) (σ : St) (q : AV) (x : Nat) : run 148 7 (a0 :: q :: l) (vR x :: st) σ = run 148 8 (a0 :: vR x :: l) (st) σ := (run_eq 148 7 _ _ σ).trans rfl
set_option maxRecDepth 20000 in
theorem e148_8 (ls st : List AV) (σ : St) : run 148 8 (ls) (st) σ = run 148 11 (ls) (vR (nn σ + 1) :: st) (al σ 3 20) := (run_eq 148 8 _ _ σ).trans rfl
set_option maxRecDepth 20000 in
theorem e148_11 (ls st : List AV) (σ : St) (x : Nat) : run 148 11 ls (vR x :: st) σ = run 148 12 ls (vR x :: vR x :: st) σ := (run_eq 148 11 _ _ σ).trans rfl
set_option maxRecDepth 20000 in
theorem e148_12 (ls st : List AV) (σ : St) (x0 : Nat) (h4 : st.length ≤ 4) (h : 1 ≤ x0) : run 148 12 ls (vR x0 :: st) σ = bnd (run 89 0 [vR x0] [] σ) (fun r σ => run 148 15 ls (psh r st) σ) := (run_eq 148 12 _ _ σ).trans (if_pos ⟨rfl, by simp, by simpa using h4, rfl, h⟩)
set_option maxRecDepth 20000 in
theorem e148_15 (a0 a1 : AV) (l st : List AV) (σ : St) (q : AV) (x : Nat) : run 148 15 (a0 :: a1 :: q :: l) (vR x :: st) σ = run 148 16 (a0 :: a1 :: vR x :: l) (st) σ := (run_eq 148 15 _ _ σ).trans rfl
set_option maxRecDepth 20000 in
theorem e148_16 (ls st : List AV) (σ : St) : run 148 16 (ls) (st) σ = run 148 17 (ls) (vI 0 :: st) σ := (run_eq 148 16 _ _ σ).trans rfl
set_option maxRecDepth 20000 in
theorem e148_17 (a0 a1 a2 : AV) (l st : List AV) (σ : St) (q : AV) (x : Int) : run 148 17 (a0 :: a1 :: a2 :: q :: l) (vI x :: st) σ = run 148 18 (a0 :: a1 :: a2 :: vI x :: l) (st) σ := (run_eq 148 17 _ _ σ).trans rfl
set_option maxRecDepth 20000 in
theorem e148_18 (a0 a1 a2 : AV) (l st : List AV) (σ : St) (x : Int) : run 148 18 (a0 :: a1 :: a2 :: vI x :: l) (st) σ = run 148 19 (a0 :: a1 :: a2 :: vI x :: l) (vI x :: st) σ := (run_eq 148 18 _ _ σ).trans rfl
set_option maxRecDepth 20000 in
theorem e148_19 (l st : List AV) (σ : St) (x : Nat) : run 148 19 (vS x :: l) (st) σ = run 148 20 (vS x :: l) (vS x :: st) σ := (run_eq 148 19 _ _ σ).trans rfl
set_option maxRecDepth 20000 in
theorem e148_20 (ls st : List AV) (σ : St) (x : Nat) : run 148 20 (ls) (vS x :: st) σ = run 148 21 (ls) (vI (sl σ) :: st) σ := (run_eq 148 20 _ _ σ).trans rfl
set_option maxRecDepth 20000 in
theorem e148_21 (ls st : List AV) (σ : St) : run 148 21 (ls) (st) σ = run 148 22 (ls) (vI 5 :: st) σ := (run_eq 148 21 _ _ σ).trans rfl
set_option maxRecDepth 20000 in
theorem e148_22 (ls st : List AV) (σ : St) (y x : Int) : run 148 22 (ls) (vI y :: vI x :: st) σ = run 148 23 (ls) (vI (wr (x - y)) :: st) σ := (run_eq 148 22 _ _ σ).trans rfl
set_option maxRecDepth 20000 in
theorem e148_23 (ls st : List AV) (σ : St) (y x : Int) : run 148 23 (ls) (vI y :: vI x :: st) σ = if y < x then run 148 1022 (ls) (st) σ else run 148 26 (ls) (st) σ := (run_eq 148 23 _ _ σ).trans rfl
set_option maxRecDepth 20000 in
theorem e148_26 (l st : List AV) (σ : St) (x : Nat) : run 148 26 (vS x :: l) (st) σ = run 148 27 (vS x :: l) (vS x :: st) σ := (run_eq 148 26 _ _ σ).trans rfl
set_option maxRecDepth 20000 in
theorem e148_27 (a0 a1 a2 : AV) (l st : List AV) (σ : St) (x : Int) : run 148 27 (a0 :: a1 :: a2 :: vI x :: l) (st) σ = run 148 28 (a0 :: a1 :: a2 :: vI x :: l) (vI x :: st) σ := (run_eq 148 27 _ _ σ).trans rfl
set_option maxRecDepth 20000 in
theorem e148_28 (ls st : List AV) (σ : St) (j : Int) (x : Nat) (h : 0 ≤ j ∧ j < (sl σ : Int)) : run 148 28 (ls) (vI j :: vS x :: st) σ = run 148 29 (ls) (vI (sx σ j.toNat) :: st) σ := (run_eq 148 28 _ _ σ).trans (if_pos h)
set_option maxRecDepth 20000 in
theorem e148_29 (ls st : List AV) (σ : St) : run 148 29 (ls) (st) σ = run 148 31 (ls) (vI 31 :: st) σ := (run_eq 148 29 _ _ σ).trans rfl
set_option maxRecDepth 20000 in
theorem e148_31 (ls st : List AV) (σ : St) (y x : Int) : run 148 31 (ls) (vI y :: vI x :: st) σ = run 148 32 (ls) (vI (bAnd x y) :: st) σ := (run_eq 148 31 _ _ σ).trans rfl
set_option maxRecDepth 20000 in
theorem e148_32 (ls st : List AV) (σ : St) (x : Int) : run 148 32 (ls) (vI x :: st) σ = run 148 (sw [(0, 172), (1, 205), (2, 248), (3, 281), (4, 324), (5, 347), (6, 360), (7, 373), (8, 396), (9, 409), (10, 442), (11, 475), (12, 498), (13, 521), (14, 534), (15, 557), (16, 590), (17, 623), (18, 656), (19, 679), (20, 722), (21, 745), (22, 768), (23, 801), (24, 814), (25, 837), (26, 850), (27, 904), (28, 947), (29, 970), (30, 993)] 1016 x) ls st σ := (run_eq 148 32 _ _ σ).trans rfl
set_option maxRecDepth 20000 in
theorem e148_172 (a0 : AV) (l st : List AV) (σ : St) (x : Nat) : run 148 172 (a0 :: vR x :: l) (st) σ = run 148 173 (a0 :: vR x :: l) (vR x :: st) σ := (run_eq 148 172 _ _ σ).trans rfl
set_option maxRecDepth 20000 in
theorem e148_173 (l st : List AV) (σ : St) (x : Nat) : run 148 173 (vS x :: l) (st) σ = run 148 174 (vS x :: l) (vS x :: st) σ := (run_eq 148 173 _ _ σ).trans rfl
set_option maxRecDepth 20000 in
theorem e148_174 (a0 a1 a2 : AV) (l st : List AV) (σ : St) (x : Int) : run 148 174 (a0 :: a1 :: a2 :: vI x :: l) (st) σ = run 148 175 (a0 :: a1 :: a2 :: vI x :: l) (vI x :: st) σ := (run_eq 148 174 _ _ σ).trans rfl
set_option maxRecDepth 20000 in
theorem e148_175 (ls st : List AV) (σ : St) : run 148 175 (ls) (st) σ = run 148 176 (ls) (vI 1 :: st) σ := (run_eq 148 175 _ _ σ).trans rfl
set_option maxRecDepth 20000 in
theorem e148_176 (ls st : List AV) (σ : St) (y x : Int) : run 148 176 (ls) (vI y :: vI x :: st) σ = run 148 177 (ls) (vI (wr (x + y)) :: st) σ := (run_eq 148 176 _ _ σ).trans rfl
set_option maxRecDepth 20000 in
theorem e148_177 (ls st : List AV) (σ : St) (j : Int) (x : Nat) (h : 0 ≤ j ∧ j < (sl σ : Int)) : run 148 177 (ls) (vI j :: vS x :: st) σ = run 148 178 (ls) (vI (sx σ j.toNat) :: st) σ := (run_eq 148 177 _ _ σ).trans (if_pos h)
set_option maxRecDepth 20000 in
theorem e148_178 (l st : List AV) (σ : St) (x : Nat) : run 148 178 (vS x :: l) (st) σ = run 148 179 (vS x :: l) (vS x :: st) σ := (run_eq 148 178 _ _ σ).trans rfl
set_option maxRecDepth 20000 in
theorem e148_179 (a0 a1 a2 : AV) (l st : List AV) (σ : St) (x : Int) : run 148 179 (a0 :: a1 :: a2 :: vI x :: l) (st) σ = run 148 180 (a0 :: a1 :: a2 :: vI x :: l) (vI x :: st) σ := (run_eq 148 179 _ _ σ).trans rfl
set_option maxRecDepth 20000 in
theorem e148_180 (ls st : List AV) (σ : St) : run 148 180 (ls) (st) σ = run 148 181 (ls) (vI 2 :: st) σ := (run_eq 148 180 _ _ σ).trans rfl
set_option maxRecDepth 20000 in
theorem e148_181 (ls st : List AV) (σ : St) (y x : Int) : run 148 181 (ls) (vI y :: vI x :: st) σ = run 148 182 (ls) (vI (wr (x + y)) :: st) σ := (run_eq 148 181 _ _ σ).trans rfl
set_option maxRecDepth 20000 in
theorem e148_182 (ls st : List AV) (σ : St) (j : Int) (x : Nat) (h : 0 ≤ j ∧ j < (sl σ : Int)) : run 148 182 (ls) (vI j :: vS x :: st) σ = run 148 183 (ls) (vI (sx σ j.toNat) :: st) σ := (run_eq 148 182 _ _ σ).trans (if_pos h)
set_option maxRecDepth 20000 in
theorem e148_183 (ls st : List AV) (σ : St) (x0 : Nat) (x1 : Int) (x2 : Int) (h4 : st.length ≤ 4) (h : fok σ x0 2) : run 148 183 ls (vI x2 :: vI x1 :: vR x0 :: st) σ = bnd (run 5 0 [vR x0, vI x1, vI x2] [] σ) (fun r σ => run 148 186 ls (psh r st) σ) := (run_eq 148 183 _ _ σ).trans (if_pos ⟨rfl, by simp, by simpa using h4, rfl, h⟩)
set_option maxRecDepth 20000 in
theorem e148_186 (a0 a1 : AV) (l st : List AV) (σ : St) (x : Nat) : run 148 186 (a0 :: a1 :: vR x :: l) (st) σ = run 148 187 (a0 :: a1 :: vR x :: l) (vR x :: st) σ := (run_eq 148 186 _ _ σ).trans rfl
set_option maxRecDepth 20000 in
theorem e148_187 (l st : List AV) (σ : St) (x : Nat) : run 148 187 (vS x :: l) (st) σ = run 148 188 (vS x :: l) (vS x :: st) σ := (run_eq 148 187 _ _ σ).trans rfl
set_option maxRecDepth 20000 in
theorem e148_188 (a0 a1 a2 : AV) (l st : List AV) (σ : St) (x : Int) : run 148 188 (a0 :: a1 :: a2 :: vI x :: l) (st) σ = run 148 189 (a0 :: a1 :: a2 :: vI x :: l) (vI x :: st) σ := (run_eq 148 188 _ _ σ).trans rfl
set_option maxRecDepth 20000 in
theorem e148_189 (ls st : List AV) (σ : St) : run 148 189 (ls) (st) σ = run 148 190 (ls) (vI 1 :: st) σ := (run_eq 148 189 _ _ σ).trans rfl
set_option maxRecDepth 20000 in
theorem e148_190 (ls st : List AV) (σ : St) (y x : Int) : run 148 190 (ls) (vI y :: vI x :: st) σ = run 148 191 (ls) (vI (wr (x + y)) :: st) σ := (run_eq 148 190 _ _ σ).trans rfl
set_option maxRecDepth 20000 in
theorem e148_191 (ls st : List AV) (σ : St) (j : Int) (x : Nat) (h : 0 ≤ j ∧ j < (sl σ : Int)) : run 148 191 (ls) (vI j :: vS x :: st) σ = run 148 192 (ls) (vI (sx σ j.toNat) :: st) σ := (run_eq 148 191 _ _ σ).trans (if_pos h)
set_option maxRecDepth 20000 in
theorem e148_192 (l st : List AV) (σ : St) (x : Nat) : run 148 192 (vS x :: l) (st) σ = run 148 193 (vS x :: l) (vS x :: st) σ := (run_eq 148 192 _ _ σ).trans rfl
set_option maxRecDepth 20000 in
theorem e148_193 (a0 a1 a2 : AV) (l st : List AV) (σ : St) (x : Int) : run 148 193 (a0 :: a1 :: a2 :: vI x :: l) (st) σ = run 148 194 (a0 :: a1 :: a2 :: vI x :: l) (vI x :: st) σ := (run_eq 148 193 _ _ σ).trans rfl
set_option maxRecDepth 20000 in
theorem e148_194 (ls st : List AV) (σ : St) : run 148 194 (ls) (st) σ = run 148 195 (ls) (vI 2 :: st) σ := (run_eq 148 194 _ _ σ).trans rfl
set_option maxRecDepth 20000 in
theorem e148_195 (ls st : List AV) (σ : St) (y x : Int) : run 148 195 (ls) (vI y :: vI x :: st) σ = run 148 196 (ls) (vI (wr (x + y)) :: st) σ := (run_eq 148 195 _ _ σ).trans rfl
set_option maxRecDepth 20000 in
theorem e148_196 (ls st : List AV) (σ : St) (j : Int) (x : Nat) (h : 0 ≤ j ∧ j < (sl σ : Int)) : run 148 196 (ls) (vI j :: vS x :: st) σ = run 148 197 (ls) (vI (sx σ j.toNat) :: st) σ := (run_eq 148 196 _ _ σ).trans (if_pos h)
set_option maxRecDepth 20000 in
theorem e148_197 (ls st : List AV) (σ : St) (x0 : Nat) (x1 : Int) (x2 : Int) (h4 : st.length ≤ 4) (h : fok σ x0 3) : run 148 197 ls (vI x2 :: vI x1 :: vR x0 :: st) σ = bnd (run 91 0 [vR x0, vI x1, vI x2] [] σ) (fun r σ => run 148 200 ls (psh r st) σ) := (run_eq 148 197 _ _ σ).trans (if_pos ⟨rfl, by simp, by simpa using h4, rfl, h⟩)
set_option maxRecDepth 20000 in
theorem e148_200 (ls st : List AV) (σ : St) (y x : Int) : run 148 200 (ls) (vI y :: vI x :: st) σ = if x = y then run 148 1016 (ls) (st) σ else run 148 203 (ls) (st) σ := (run_eq 148 200 _ _ σ).trans rfl
set_option maxRecDepth 20000 in
theorem e148_203 (ls st : List AV) (σ : St) : run 148 203 (ls) (st) σ = run 148 204 (ls) (vI 0 :: st) σ := (run_eq 148 203 _ _ σ).trans rfl
set_option maxRecDepth 20000 in
theorem e148_204 (ls : List AV) (σ : St) (x : Int) (h : x = 0 ∨ x = 1) : run 148 204 ls [vI x] σ = some (vI x, σ) := (run_eq 148 204 _ _ σ).trans (if_pos h)
set_option maxRecDepth 20000 in
theorem e148_205 (a0 : AV) (l st : List AV) (σ : St) (x : Nat) : run 148 205 (a0 :: vR x :: l) (st) σ = run 148 206 (a0 :: vR x :: l) (vR x :: st) σ := (run_eq 148 205 _ _ σ).trans rfl
set_option maxRecDepth 20000 in
theorem e148_206 (l st : List AV) (σ : St) (x : Nat) : run 148 206 (vS x :: l) (st) σ = run 148 207 (vS x :: l) (vS x :: st) σ := (run_eq 148 206 _ _ σ).trans rfl
set_option maxRecDepth 20000 in
theorem e148_207 (a0 a1 a2 : AV) (l st : List AV) (σ : St) (x : Int) : run 148 207 (a0 :: a1 :: a2 :: vI x :: l) (st) σ = run 148 208 (a0 :: a1 :: a2 :: vI x :: l) (vI x :: st) σ := (run_eq 148 207 _ _ σ).trans rfl
set_option maxRecDepth 20000 in
theorem e148_208 (ls st : List AV) (σ : St) : run 148 208 (ls) (st) σ = run 148 209 (ls) (vI 1 :: st) σ := (run_eq 148 208 _ _ σ).trans rfl
set_option maxRecDepth 20000 in
theorem e148_209 (ls st : List AV) (σ : St) (y x : Int) : run 148 209 (ls) (vI y :: vI x :: st) σ = run 148 210 (ls) (vI (wr (x + y)) :: st) σ := (run_eq 148 209 _ _ σ).trans rfl
set_option maxRecDepth 20000 in
theorem e148_210 (ls st : List AV) (σ : St) (j : Int) (x : Nat) (h : 0 ≤ j ∧ j < (sl σ : Int)) : run 148 210 (ls) (vI j :: vS x :: st) σ = run 148 211 (ls) (vI (sx σ j.toNat) :: st) σ := (run_eq 148 210 _ _ σ).trans (if_pos h)
set_option maxRecDepth 20000 in
theorem e148_211 (l st : List AV) (σ : St) (x : Nat) : run 148 211 (vS x :: l) (st) σ = run 148 212 (vS x :: l) (vS x :: st) σ := (run_eq 148 211 _ _ σ).trans rfl
set_option maxRecDepth 20000 in
theorem e148_212 (a0 a1 a2 : AV) (l st : List AV) (σ : St) (x : Int) : run 148 212 (a0 :: a1 :: a2 :: vI x :: l) (st) σ = run 148 213 (a0 :: a1 :: a2 :: vI x :: l) (vI x :: st) σ := (run_eq 148 212 _ _ σ).trans rfl
set_option maxRecDepth 20000 in
theorem e148_213 (ls st : List AV) (σ : St) : run 148 213 (ls) (st) σ = run 148 214 (ls) (vI 2 :: st) σ := (run_eq 148 213 _ _ σ).trans rfl
set_option maxRecDepth 20000 in
theorem e148_214 (ls st : List AV) (σ : St) (y x : Int) : run 148 214 (ls) (vI y :: vI x :: st) σ = run 148 215 (ls) (vI (wr (x + y)) :: st) σ := (run_eq 148 214 _ _ σ).trans rfl
set_option maxRecDepth 20000 in
theorem e148_215 (ls st : List AV) (σ : St) (j : Int) (x : Nat) (h : 0 ≤ j ∧ j < (sl σ : Int)) : run 148 215 (ls) (vI j :: vS x :: st) σ = run 148 216 (ls) (vI (sx σ j.toNat) :: st) σ := (run_eq 148 215 _ _ σ).trans (if_pos h)
set_option maxRecDepth 20000 in
theorem e148_216 (l st : List AV) (σ : St) (x : Nat) : run 148 216 (vS x :: l) (st) σ = run 148 217 (vS x :: l) (vS x :: st) σ := (run_eq 148 216 _ _ σ).trans rfl
set_option maxRecDepth 20000 in
theorem e148_217 (a0 a1 a2 : AV) (l st : List AV) (σ : St) (x : Int) : run 148 217 (a0 :: a1 :: a2 :: vI x :: l) (st) σ = run 148 218 (a0 :: a1 :: a2 :: vI x :: l) (vI x :: st) σ := (run_eq 148 217 _ _ σ).trans rfl
set_option maxRecDepth 20000 in
theorem e148_218 (ls st : List AV) (σ : St) : run 148 218 (ls) (st) σ = run 148 219 (ls) (vI 3 :: st) σ := (run_eq 148 218 _ _ σ).trans rfl
set_option maxRecDepth 20000 in
theorem e148_219 (ls st : List AV) (σ : St) (y x : Int) : run 148 219 (ls) (vI y :: vI x :: st) σ = run 148 220 (ls) (vI (wr (x + y)) :: st) σ := (run_eq 148 219 _ _ σ).trans rfl
set_option maxRecDepth 20000 in
theorem e148_220 (ls st : List AV) (σ : St) (j : Int) (x : Nat) (h : 0 ≤ j ∧ j < (sl σ : Int)) : run 148 220 (ls) (vI j :: vS x :: st) σ = run 148 221 (ls) (vI (sx σ j.toNat) :: st) σ := (run_eq 148 220 _ _ σ).trans (if_pos h)
set_option maxRecDepth 20000 in
theorem e148_221 (ls st : List AV) (σ : St) (x0 : Nat) (x1 : Int) (x2 : Int) (x3 : Int) (h4 : st.length ≤ 4) (h : fok σ x0 2) : run 148 221 ls (vI x3 :: vI x2 :: vI x1 :: vR x0 :: st) σ = bnd (run 7 0 [vR x0, vI x1, vI x2, vI x3, vU] [] σ) (fun r σ => run 148 224 ls (psh r st) σ) := (run_eq 148 221 _ _ σ).trans (if_pos ⟨rfl, by simp, by simpa using h4, rfl, h⟩)
set_option maxRecDepth 20000 in
theorem e148_224 (a0 a1 : AV) (l st : List AV) (σ : St) (x : Nat) : run 148 224 (a0 :: a1 :: vR x :: l) (st) σ = run 148 225 (a0 :: a1 :: vR x :: l) (vR x :: st) σ := (run_eq 148 224 _ _ σ).trans rfl
set_option maxRecDepth 20000 in
theorem e148_225 (l st : List AV) (σ : St) (x : Nat) : run 148 225 (vS x :: l) (st) σ = run 148 226 (vS x :: l) (vS x :: st) σ := (run_eq 148 225 _ _ σ).trans rfl
set_option maxRecDepth 20000 in
theorem e148_226 (a0 a1 a2 : AV) (l st : List AV) (σ : St) (x : Int) : run 148 226 (a0 :: a1 :: a2 :: vI x :: l) (st) σ = run 148 227 (a0 :: a1 :: a2 :: vI x :: l) (vI x :: st) σ := (run_eq 148 226 _ _ σ).trans rfl
set_option maxRecDepth 20000 in
theorem e148_227 (ls st : List AV) (σ : St) : run 148 227 (ls) (st) σ = run 148 228 (ls) (vI 1 :: st) σ := (run_eq 148 227 _ _ σ).trans rfl
set_option maxRecDepth 20000 in
theorem e148_228 (ls st : List AV) (σ : St) (y x : Int) : run 148 228 (ls) (vI y :: vI x :: st) σ = run 148 229 (ls) (vI (wr (x + y)) :: st) σ := (run_eq 148 228 _ _ σ).trans rfl
set_option maxRecDepth 20000 in
theorem e148_229 (ls st : List AV) (σ : St) (j : Int) (x : Nat) (h : 0 ≤ j ∧ j < (sl σ : Int)) : run 148 229 (ls) (vI j :: vS x :: st) σ = run 148 230 (ls) (vI (sx σ j.toNat) :: st) σ := (run_eq 148 229 _ _ σ).trans (if_pos h)
set_option maxRecDepth 20000 in
theorem e148_230 (l st : List AV) (σ : St) (x : Nat) : run 148 230 (vS x :: l) (st) σ = run 148 231 (vS x :: l) (vS x :: st) σ := (run_eq 148 230 _ _ σ).trans rfl
set_option maxRecDepth 20000 in
theorem e148_231 (a0 a1 a2 : AV) (l st : List AV) (σ : St) (x : Int) : run 148 231 (a0 :: a1 :: a2 :: vI x :: l) (st) σ = run 148 232 (a0 :: a1 :: a2 :: vI x :: l) (vI x :: st) σ := (run_eq 148 231 _ _ σ).trans rfl
set_option maxRecDepth 20000 in
theorem e148_232 (ls st : List AV) (σ : St) : run 148 232 (ls) (st) σ = run 148 233 (ls) (vI 2 :: st) σ := (run_eq 148 232 _ _ σ).trans rfl
set_option maxRecDepth 20000 in
theorem e148_233 (ls st : List AV) (σ : St) (y x : Int) : run 148 233 (ls) (vI y :: vI x :: st) σ = run 148 234 (ls) (vI (wr (x + y)) :: st) σ := (run_eq 148 233 _ _ σ).trans rfl
set_option maxRecDepth 20000 in
theorem e148_234 (ls st : List AV) (σ : St) (j : Int) (x : Nat) (h : 0 ≤ j ∧ j < (sl σ : Int)) : run 148 234 (ls) (vI j :: vS x :: st) σ = run 148 235 (ls) (vI (sx σ j.toNat) :: st) σ := (run_eq 148 234 _ _ σ).trans (if_pos h)
set_option maxRecDepth 20000 in
theorem e148_235 (l st : List AV) (σ : St) (x : Nat) : run 148 235 (vS x :: l) (st) σ = run 148 236 (vS x :: l) (vS x :: st) σ := (run_eq 148 235 _ _ σ).trans rfl
set_option maxRecDepth 20000 in
theorem e148_236 (a0 a1 a2 : AV) (l st : List AV) (σ : St) (x : Int) : run 148 236 (a0 :: a1 :: a2 :: vI x :: l) (st) σ = run 148 237 (a0 :: a1 :: a2 :: vI x :: l) (vI x :: st) σ := (run_eq 148 236 _ _ σ).trans rfl
set_option maxRecDepth 20000 in
theorem e148_237 (ls st : List AV) (σ : St) : run 148 237 (ls) (st) σ = run 148 238 (ls) (vI 3 :: st) σ := (run_eq 148 237 _ _ σ).trans rfl
set_option maxRecDepth 20000 in
theorem e148_238 (ls st : List AV) (σ : St) (y x : Int) : run 148 238 (ls) (vI y :: vI x :: st) σ = run 148 239 (ls) (vI (wr (x + y)) :: st) σ := (run_eq 148 238 _ _ σ).trans rfl
set_option maxRecDepth 20000 in
theorem e148_239 (ls st : List AV) (σ : St) (j : Int) (x : Nat) (h : 0 ≤ j ∧ j < (sl σ : Int)) : run 148 239 (ls) (vI j :: vS x :: st) σ = run 148 240 (ls) (vI (sx σ j.toNat) :: st) σ := (run_eq 148 239 _ _ σ).trans (if_pos h)
set_option maxRecDepth 20000 in
theorem e148_240 (ls st : List AV) (σ : St) (x0 : Nat) (x1 : Int) (x2 : Int) (x3 : Int) (h4 : st.length ≤ 4) (h : fok σ x0 3) : run 148 240 ls (vI x3 :: vI x2 :: vI x1 :: vR x0 :: st) σ = bnd (run 93 0 [vR x0, vI x1, vI x2, vI x3, vU] [] σ) (fun r σ => run 148 243 ls (psh r st) σ) := (run_eq 148 240 _ _ σ).trans (if_pos ⟨rfl, by simp, by simpa using h4, rfl, h⟩)
set_option maxRecDepth 20000 in
theorem e148_243 (ls st : List AV) (σ : St) (y x : Int) : run 148 243 (ls) (vI y :: vI x :: st) σ = if x = y then run 148 1016 (ls) (st) σ else run 148 246 (ls) (st) σ := (run_eq 148 243 _ _ σ).trans rfl
set_option maxRecDepth 20000 in
theorem e148_246 (ls st : List AV) (σ : St) : run 148 246 (ls) (st) σ = run 148 247 (ls) (vI 0 :: st) σ := (run_eq 148 246 _ _ σ).trans rfl
set_option maxRecDepth 20000 in
theorem e148_247 (ls : List AV) (σ : St) (x : Int) (h : x = 0 ∨ x = 1) : run 148 247 ls [vI x] σ = some (vI x, σ) := (run_eq 148 247 _ _ σ).trans (if_pos h)
set_option maxRecDepth 20000 in
theorem e148_248 (a0 : AV) (l st : List AV) (σ : St) (x : Nat) : run 148 248 (a0 :: vR x :: l) (st) σ = run 148 249 (a0 :: vR x :: l) (vR x :: st) σ := (run_eq 148 248 _ _ σ).trans rfl
set_option maxRecDepth 20000 in
theorem e148_249 (l st : List AV) (σ : St) (x : Nat) : run 148 249 (vS x :: l) (st) σ = run 148 250 (vS x :: l) (vS x :: st) σ := (run_eq 148 249 _ _ σ).trans rfl
set_option maxRecDepth 20000 in
theorem e148_250 (a0 a1 a2 : AV) (l st : List AV) (σ : St) (x : Int) : run 148 250 (a0 :: a1 :: a2 :: vI x :: l) (st) σ = run 148 251 (a0 :: a1 :: a2 :: vI x :: l) (vI x :: st) σ := (run_eq 148 250 _ _ σ).trans rfl
set_option maxRecDepth 20000 in
theorem e148_251 (ls st : List AV) (σ : St) : run 148 251 (ls) (st) σ = run 148 252 (ls) (vI 1 :: st) σ := (run_eq 148 251 _ _ σ).trans rfl
set_option maxRecDepth 20000 in
theorem e148_252 (ls st : List AV) (σ : St) (y x : Int) : run 148 252 (ls) (vI y :: vI x :: st) σ = run 148 253 (ls) (vI (wr (x + y)) :: st) σ := (run_eq 148 252 _ _ σ).trans rfl
set_option maxRecDepth 20000 in
theorem e148_253 (ls st : List AV) (σ : St) (j : Int) (x : Nat) (h : 0 ≤ j ∧ j < (sl σ : Int)) : run 148 253 (ls) (vI j :: vS x :: st) σ = run 148 254 (ls) (vI (sx σ j.toNat) :: st) σ := (run_eq 148 253 _ _ σ).trans (if_pos h)
set_option maxRecDepth 20000 in
theorem e148_254 (l st : List AV) (σ : St) (x : Nat) : run 148 254 (vS x :: l) (st) σ = run 148 255 (vS x :: l) (vS x :: st) σ := (run_eq 148 254 _ _ σ).trans rfl
set_option maxRecDepth 20000 in
theorem e148_255 (a0 a1 a2 : AV) (l st : List AV) (σ : St) (x : Int) : run 148 255 (a0 :: a1 :: a2 :: vI x :: l) (st) σ = run 148 256 (a0 :: a1 :: a2 :: vI x :: l) (vI x :: st) σ := (run_eq 148 255 _ _ σ).trans rfl
set_option maxRecDepth 20000 in
theorem e148_256 (ls st : List AV) (σ : St) : run 148 256 (ls) (st) σ = run 148 257 (ls) (vI 2 :: st) σ := (run_eq 148 256 _ _ σ).trans rfl
set_option maxRecDepth 20000 in
theorem e148_257 (ls st : List AV) (σ : St) (y x : Int) : run 148 257 (ls) (vI y :: vI x :: st) σ = run 148 258 (ls) (vI (wr (x + y)) :: st) σ := (run_eq 148 257 _ _ σ).trans rfl
set_option maxRecDepth 20000 in
theorem e148_258 (ls st : List AV) (σ : St) (j : Int) (x : Nat) (h : 0 ≤ j ∧ j < (sl σ : Int)) : run 148 258 (ls) (vI j :: vS x :: st) σ = run 148 259 (ls) (vI (sx σ j.toNat) :: st) σ := (run_eq 148 258 _ _ σ).trans (if_pos h)
set_option maxRecDepth 20000 in
theorem e148_259 (ls st : List AV) (σ : St) (x0 : Nat) (x1 : Int) (x2 : Int) (h4 : st.length ≤ 4) (h : fok σ x0 2) : run 148 259 ls (vI x2 :: vI x1 :: vR x0 :: st) σ = bnd (run 15 0 [vR x0, vI x1, vI x2, vU] [] σ) (fun r σ => run 148 262 ls (psh r st) σ) := (run_eq 148 259 _ _ σ).trans (if_pos ⟨rfl, by simp, by simpa using h4, rfl, h⟩)
set_option maxRecDepth 20000 in
theorem e148_262 (a0 a1 : AV) (l st : List AV) (σ : St) (x : Nat) : run 148 262 (a0 :: a1 :: vR x :: l) (st) σ = run 148 263 (a0 :: a1 :: vR x :: l) (vR x :: st) σ := (run_eq 148 262 _ _ σ).trans rfl
set_option maxRecDepth 20000 in
theorem e148_263 (l st : List AV) (σ : St) (x : Nat) : run 148 263 (vS x :: l) (st) σ = run 148 264 (vS x :: l) (vS x :: st) σ := (run_eq 148 263 _ _ σ).trans rfl
set_option maxRecDepth 20000 in
theorem e148_264 (a0 a1 a2 : AV) (l st : List AV) (σ : St) (x : Int) : run 148 264 (a0 :: a1 :: a2 :: vI x :: l) (st) σ = run 148 265 (a0 :: a1 :: a2 :: vI x :: l) (vI x :: st) σ := (run_eq 148 264 _ _ σ).trans rfl
set_option maxRecDepth 20000 in
theorem e148_265 (ls st : List AV) (σ : St) : run 148 265 (ls) (st) σ = run 148 266 (ls) (vI 1 :: st) σ := (run_eq 148 265 _ _ σ).trans rfl
set_option maxRecDepth 20000 in
theorem e148_266 (ls st : List AV) (σ : St) (y x : Int) : run 148 266 (ls) (vI y :: vI x :: st) σ = run 148 267 (ls) (vI (wr (x + y)) :: st) σ := (run_eq 148 266 _ _ σ).trans rfl
set_option maxRecDepth 20000 in
theorem e148_267 (ls st : List AV) (σ : St) (j : Int) (x : Nat) (h : 0 ≤ j ∧ j < (sl σ : Int)) : run 148 267 (ls) (vI j :: vS x :: st) σ = run 148 268 (ls) (vI (sx σ j.toNat) :: st) σ := (run_eq 148 267 _ _ σ).trans (if_pos h)
set_option maxRecDepth 20000 in
theorem e148_268 (l st : List AV) (σ : St) (x : Nat) : run 148 268 (vS x :: l) (st) σ = run 148 269 (vS x :: l) (vS x :: st) σ := (run_eq 148 268 _ _ σ).trans rfl
set_option maxRecDepth 20000 in
theorem e148_269 (a0 a1 a2 : AV) (l st : List AV) (σ : St) (x : Int) : run 148 269 (a0 :: a1 :: a2 :: vI x :: l) (st) σ = run 148 270 (a0 :: a1 :: a2 :: vI x :: l) (vI x :: st) σ := (run_eq 148 269 _ _ σ).trans rfl
set_option maxRecDepth 20000 in
theorem e148_270 (ls st : List AV) (σ : St) : run 148 270 (ls) (st) σ = run 148 271 (ls) (vI 2 :: st) σ := (run_eq 148 270 _ _ σ).trans rfl
set_option maxRecDepth 20000 in
theorem e148_271 (ls st : List AV) (σ : St) (y x : Int) : run 148 271 (ls) (vI y :: vI x :: st) σ = run 148 272 (ls) (vI (wr (x + y)) :: st) σ := (run_eq 148 271 _ _ σ).trans rfl
set_option maxRecDepth 20000 in
theorem e148_272 (ls st : List AV) (σ : St) (j : Int) (x : Nat) (h : 0 ≤ j ∧ j < (sl σ : Int)) : run 148 272 (ls) (vI j :: vS x :: st) σ = run 148 273 (ls) (vI (sx σ j.toNat) :: st) σ := (run_eq 148 272 _ _ σ).trans (if_pos h)
set_option maxRecDepth 20000 in
theorem e148_273 (ls st : List AV) (σ : St) (x0 : Nat) (x1 : Int) (x2 : Int) (h4 : st.length ≤ 4) (h : fok σ x0 3) : run 148 273 ls (vI x2 :: vI x1 :: vR x0 :: st) σ = bnd (run 96 0 [vR x0, vI x1, vI x2, vU, vU] [] σ) (fun r σ => run 148 276 ls (psh r st) σ) := (run_eq 148 273 _ _ σ).trans (if_pos ⟨rfl, by simp, by simpa using h4, rfl, h⟩)
set_option maxRecDepth 20000 in
theorem e148_276 (ls st : List AV) (σ : St) (y x : Int) : run 148 276 (ls) (vI y :: vI x :: st) σ = if x = y then run 148 1016 (ls) (st) σ else run 148 279 (ls) (st) σ := (run_eq 148 276 _ _ σ).trans rfl
set_option maxRecDepth 20000 in
theorem e148_279 (ls st : List AV) (σ : St) : run 148 279 (ls) (st) σ = run 148 280 (ls) (vI 0 :: st) σ := (run_eq 148 279 _ _ σ).trans rfl
set_option maxRecDepth 20000 in
theorem e148_280 (ls : List AV) (σ : St) (x : Int) (h : x = 0 ∨ x = 1) : run 148 280 ls [vI x] σ = some (vI x, σ) := (run_eq 148 280 _ _ σ).trans (if_pos h)
set_option maxRecDepth 20000 in
theorem e148_281 (a0 : AV) (l st : List AV) (σ : St) (x : Nat) : run 148 281 (a0 :: vR x :: l) (st) σ = run 148 282 (a0 :: vR x :: l) (vR x :: st) σ := (run_eq 148 281 _ _ σ).trans rfl
set_option maxRecDepth 20000 in
theorem e148_282 (l st : List AV) (σ : St) (x : Nat) : run 148 282 (vS x :: l) (st) σ = run 148 283 (vS x :: l) (vS x :: st) σ := (run_eq 148 282 _ _ σ).trans rfl
set_option maxRecDepth 20000 in
theorem e148_283 (a0 a1 a2 : AV) (l st : List AV) (σ : St) (x : Int) : run 148 283 (a0 :: a1 :: a2 :: vI x :: l) (st) σ = run 148 284 (a0 :: a1 :: a2 :: vI x :: l) (vI x :: st) σ := (run_eq 148 283 _ _ σ).trans rfl
set_option maxRecDepth 20000 in
theorem e148_284 (ls st : List AV) (σ : St) : run 148 284 (ls) (st) σ = run 148 285 (ls) (vI 1 :: st) σ := (run_eq 148 284 _ _ σ).trans rfl
set_option maxRecDepth 20000 in
theorem e148_285 (ls st : List AV) (σ : St) (y x : Int) : run 148 285 (ls) (vI y :: vI x :: st) σ = run 148 286 (ls) (vI (wr (x + y)) :: st) σ := (run_eq 148 285 _ _ σ).trans rfl
set_option maxRecDepth 20000 in
theorem e148_286 (ls st : List AV) (σ : St) (j : Int) (x : Nat) (h : 0 ≤ j ∧ j < (sl σ : Int)) : run 148 286 (ls) (vI j :: vS x :: st) σ = run 148 287 (ls) (vI (sx σ j.toNat) :: st) σ := (run_eq 148 286 _ _ σ).trans (if_pos h)
set_option maxRecDepth 20000 in
theorem e148_287 (l st : List AV) (σ : St) (x : Nat) : run 148 287 (vS x :: l) (st) σ = run 148 288 (vS x :: l) (vS x :: st) σ := (run_eq 148 287 _ _ σ).trans rfl
set_option maxRecDepth 20000 in
theorem e148_288 (a0 a1 a2 : AV) (l st : List AV) (σ : St) (x : Int) : run 148 288 (a0 :: a1 :: a2 :: vI x :: l) (st) σ = run 148 289 (a0 :: a1 :: a2 :: vI x :: l) (vI x :: st) σ := (run_eq 148 288 _ _ σ).trans rfl
set_option maxRecDepth 20000 in
theorem e148_289 (ls st : List AV) (σ : St) : run 148 289 (ls) (st) σ = run 148 290 (ls) (vI 2 :: st) σ := (run_eq 148 289 _ _ σ).trans rfl
set_option maxRecDepth 20000 in
theorem e148_290 (ls st : List AV) (σ : St) (y x : Int) : run 148 290 (ls) (vI y :: vI x :: st) σ = run 148 291 (ls) (vI (wr (x + y)) :: st) σ := (run_eq 148 290 _ _ σ).trans rfl
set_option maxRecDepth 20000 in
theorem e148_291 (ls st : List AV) (σ : St) (j : Int) (x : Nat) (h : 0 ≤ j ∧ j < (sl σ : Int)) : run 148 291 (ls) (vI j :: vS x :: st) σ = run 148 292 (ls) (vI (sx σ j.toNat) :: st) σ := (run_eq 148 291 _ _ σ).trans (if_pos h)
set_option maxRecDepth 20000 in
theorem e148_292 (l st : List AV) (σ : St) (x : Nat) : run 148 292 (vS x :: l) (st) σ = run 148 293 (vS x :: l) (vS x :: st) σ := (run_eq 148 292 _ _ σ).trans rfl
set_option maxRecDepth 20000 in
theorem e148_293 (a0 a1 a2 : AV) (l st : List AV) (σ : St) (x : Int) : run 148 293 (a0 :: a1 :: a2 :: vI x :: l) (st) σ = run 148 294 (a0 :: a1 :: a2 :: vI x :: l) (vI x :: st) σ := (run_eq 148 293 _ _ σ).trans rfl
set_option maxRecDepth 20000 in
theorem e148_294 (ls st : List AV) (σ : St) : run 148 294 (ls) (st) σ = run 148 295 (ls) (vI 3 :: st) σ := (run_eq 148 294 _ _ σ).trans rfl
set_option maxRecDepth 20000 in
theorem e148_295 (ls st : List AV) (σ : St) (y x : Int) : run 148 295 (ls) (vI y :: vI x :: st) σ = run 148 296 (ls) (vI (wr (x + y)) :: st) σ := (run_eq 148 295 _ _ σ).trans rfl
set_option maxRecDepth 20000 in
theorem e148_296 (ls st : List AV) (σ : St) (j : Int) (x : Nat) (h : 0 ≤ j ∧ j < (sl σ : Int)) : run 148 296 (ls) (vI j :: vS x :: st) σ = run 148 297 (ls) (vI (sx σ j.toNat) :: st) σ := (run_eq 148 296 _ _ σ).trans (if_pos h)
set_option maxRecDepth 20000 in
theorem e148_297 (ls st : List AV) (σ : St) (x0 : Nat) (x1 : Int) (x2 : Int) (x3 : Int) (h4 : st.length ≤ 4) (h : fok σ x0 2) : run 148 297 ls (vI x3 :: vI x2 :: vI x1 :: vR x0 :: st) σ = bnd (run 16 0 [vR x0, vI x1, vI x2, vI x3] [] σ) (fun r σ => run 148 300 ls (psh r st) σ) := (run_eq 148 297 _ _ σ).trans (if_pos ⟨rfl, by simp, by simpa using h4, rfl, h⟩)
set_option maxRecDepth 20000 in
theorem e148_300 (a0 a1 : AV) (l st : List AV) (σ : St) (x : Nat) : run 148 300 (a0 :: a1 :: vR x :: l) (st) σ = run 148 301 (a0 :: a1 :: vR x :: l) (vR x :: st) σ := (run_eq 148 300 _ _ σ).trans rfl
set_option maxRecDepth 20000 in
theorem e148_301 (l st : List AV) (σ : St) (x : Nat) : run 148 301 (vS x :: l) (st) σ = run 148 302 (vS x :: l) (vS x :: st) σ := (run_eq 148 301 _ _ σ).trans rfl
set_option maxRecDepth 20000 in
theorem e148_302 (a0 a1 a2 : AV) (l st : List AV) (σ : St) (x : Int) : run 148 302 (a0 :: a1 :: a2 :: vI x :: l) (st) σ = run 148 303 (a0 :: a1 :: a2 :: vI x :: l) (vI x :: st) σ := (run_eq 148 302 _ _ σ).trans rfl
set_option maxRecDepth 20000 in
theorem e148_303 (ls st : List AV) (σ : St) : run 148 303 (ls) (st) σ = run 148 304 (ls) (vI 1 :: st) σ := (run_eq 148 303 _ _ σ).trans rfl
set_option maxRecDepth 20000 in
theorem e148_304 (ls st : List AV) (σ : St) (y x : Int) : run 148 304 (ls) (vI y :: vI x :: st) σ = run 148 305 (ls) (vI (wr (x + y)) :: st) σ := (run_eq 148 304 _ _ σ).trans rfl
set_option maxRecDepth 20000 in
theorem e148_305 (ls st : List AV) (σ : St) (j : Int) (x : Nat) (h : 0 ≤ j ∧ j < (sl σ : Int)) : run 148 305 (ls) (vI j :: vS x :: st) σ = run 148 306 (ls) (vI (sx σ j.toNat) :: st) σ := (run_eq 148 305 _ _ σ).trans (if_pos h)
set_option maxRecDepth 20000 in
theorem e148_306 (l st : List AV) (σ : St) (x : Nat) : run 148 306 (vS x :: l) (st) σ = run 148 307 (vS x :: l) (vS x :: st) σ := (run_eq 148 306 _ _ σ).trans rfl
set_option maxRecDepth 20000 in
theorem e148_307 (a0 a1 a2 : AV) (l st : List AV) (σ : St) (x : Int) : run 148 307 (a0 :: a1 :: a2 :: vI x :: l) (st) σ = run 148 308 (a0 :: a1 :: a2 :: vI x :: l) (vI x :: st) σ := (run_eq 148 307 _ _ σ).trans rfl
set_option maxRecDepth 20000 in
theorem e148_308 (ls st : List AV) (σ : St) : run 148 308 (ls) (st) σ = run 148 309 (ls) (vI 2 :: st) σ := (run_eq 148 308 _ _ σ).trans rfl
set_option maxRecDepth 20000 in
theorem e148_309 (ls st : List AV) (σ : St) (y x : Int) : run 148 309 (ls) (vI y :: vI x :: st) σ = run 148 310 (ls) (vI (wr (x + y)) :: st) σ := (run_eq 148 309 _ _ σ).trans rfl
set_option maxRecDepth 20000 in
theorem e148_310 (ls st : List AV) (σ : St) (j : Int) (x : Nat) (h : 0 ≤ j ∧ j < (sl σ : Int)) : run 148 310 (ls) (vI j :: vS x :: st) σ = run 148 311 (ls) (vI (sx σ j.toNat) :: st) σ := (run_eq 148 310 _ _ σ).trans (if_pos h)
set_option maxRecDepth 20000 in
theorem e148_311 (l st : List AV) (σ : St) (x : Nat) : run 148 311 (vS x :: l) (st) σ = run 148 312 (vS x :: l) (vS x :: st) σ := (run_eq 148 311 _ _ σ).trans rfl
set_option maxRecDepth 20000 in
theorem e148_312 (a0 a1 a2 : AV) (l st : List AV) (σ : St) (x : Int) : run 148 312 (a0 :: a1 :: a2 :: vI x :: l) (st) σ = run 148 313 (a0 :: a1 :: a2 :: vI x :: l) (vI x :: st) σ := (run_eq 148 312 _ _ σ).trans rfl
set_option maxRecDepth 20000 in
theorem e148_313 (ls st : List AV) (σ : St) : run 148 313 (ls) (st) σ = run 148 314 (ls) (vI 3 :: st) σ := (run_eq 148 313 _ _ σ).trans rfl
set_option maxRecDepth 20000 in
theorem e148_314 (ls st : List AV) (σ : St) (y x : Int) : run 148 314 (ls) (vI y :: vI x :: st) σ = run 148 315 (ls) (vI (wr (x + y)) :: st) σ := (run_eq 148 314 _ _ σ).trans rfl
set_option maxRecDepth 20000 in
theorem e148_315 (ls st : List AV) (σ : St) (j : Int) (x : Nat) (h : 0 ≤ j ∧ j < (sl σ : Int)) : run 148 315 (ls) (vI j :: vS x :: st) σ = run 148 316 (ls) (vI (sx σ j.toNat) :: st) σ := (run_eq 148 315 _ _ σ).trans (if_pos h)
set_option maxRecDepth 20000 in
theorem e148_316 (ls st : List AV) (σ : St) (x0 : Nat) (x1 : Int) (x2 : Int) (x3 : Int) (h4 : st.length ≤ 4) (h : fok σ x0 3) : run 148 316 ls (vI x3 :: vI x2 :: vI x1 :: vR x0 :: st) σ = bnd (run 97 0 [vR x0, vI x1, vI x2, vI x3] [] σ) (fun r σ => run 148 319 ls (psh r st) σ) := (run_eq 148 316 _ _ σ).trans (if_pos ⟨rfl, by simp, by simpa using h4, rfl, h⟩)
set_option maxRecDepth 20000 in
theorem e148_319 (ls st : List AV) (σ : St) (y x : Int) : run 148 319 (ls) (vI y :: vI x :: st) σ = if x = y then run 148 1016 (ls) (st) σ else run 148 322 (ls) (st) σ := (run_eq 148 319 _ _ σ).trans rfl
set_option maxRecDepth 20000 in
theorem e148_322 (ls st : List AV) (σ : St) : run 148 322 (ls) (st) σ = run 148 323 (ls) (vI 0 :: st) σ := (run_eq 148 322 _ _ σ).trans rfl
set_option maxRecDepth 20000 in
theorem e148_323 (ls : List AV) (σ : St) (x : Int) (h : x = 0 ∨ x = 1) : run 148 323 ls [vI x] σ = some (vI x, σ) := (run_eq 148 323 _ _ σ).trans (if_pos h)
set_option maxRecDepth 20000 in
theorem e148_324 (a0 : AV) (l st : List AV) (σ : St) (x : Nat) : run 148 324 (a0 :: vR x :: l) (st) σ = run 148 325 (a0 :: vR x :: l) (vR x :: st) σ := (run_eq 148 324 _ _ σ).trans rfl
set_option maxRecDepth 20000 in
theorem e148_325 (l st : List AV) (σ : St) (x : Nat) : run 148 325 (vS x :: l) (st) σ = run 148 326 (vS x :: l) (vS x :: st) σ := (run_eq 148 325 _ _ σ).trans rfl
set_option maxRecDepth 20000 in
theorem e148_326 (a0 a1 a2 : AV) (l st : List AV) (σ : St) (x : Int) : run 148 326 (a0 :: a1 :: a2 :: vI x :: l) (st) σ = run 148 327 (a0 :: a1 :: a2 :: vI x :: l) (vI x :: st) σ := (run_eq 148 326 _ _ σ).trans rfl
set_option maxRecDepth 20000 in
theorem e148_327 (ls st : List AV) (σ : St) : run 148 327 (ls) (st) σ = run 148 328 (ls) (vI 1 :: st) σ := (run_eq 148 327 _ _ σ).trans rfl
set_option maxRecDepth 20000 in
theorem e148_328 (ls st : List AV) (σ : St) (y x : Int) : run 148 328 (ls) (vI y :: vI x :: st) σ = run 148 329 (ls) (vI (wr (x + y)) :: st) σ := (run_eq 148 328 _ _ σ).trans rfl
set_option maxRecDepth 20000 in
theorem e148_329 (ls st : List AV) (σ : St) (j : Int) (x : Nat) (h : 0 ≤ j ∧ j < (sl σ : Int)) : run 148 329 (ls) (vI j :: vS x :: st) σ = run 148 330 (ls) (vI (sx σ j.toNat) :: st) σ := (run_eq 148 329 _ _ σ).trans (if_pos h)
set_option maxRecDepth 20000 in
theorem e148_330 (ls st : List AV) (σ : St) (x0 : Nat) (x1 : Int) (h4 : st.length ≤ 4) (h : fok σ x0 2) : run 148 330 ls (vI x1 :: vR x0 :: st) σ = bnd (run 19 0 [vR x0, vI x1] [] σ) (fun r σ => run 148 333 ls (psh r st) σ) := (run_eq 148 330 _ _ σ).trans (if_pos ⟨rfl, by simp, by simpa using h4, rfl, h⟩)
set_option maxRecDepth 20000 in
theorem e148_333 (a0 a1 : AV) (l st : List AV) (σ : St) (x : Nat) : run 148 333 (a0 :: a1 :: vR x :: l) (st) σ = run 148 334 (a0 :: a1 :: vR x :: l) (vR x :: st) σ := (run_eq 148 333 _ _ σ).trans rfl
set_option maxRecDepth 20000 in
theorem e148_334 (l st : List AV) (σ : St) (x : Nat) : run 148 334 (vS x :: l) (st) σ = run 148 335 (vS x :: l) (vS x :: st) σ := (run_eq 148 334 _ _ σ).trans rfl
set_option maxRecDepth 20000 in
theorem e148_335 (a0 a1 a2 : AV) (l st : List AV) (σ : St) (x : Int) : run 148 335 (a0 :: a1 :: a2 :: vI x :: l) (st) σ = run 148 336 (a0 :: a1 :: a2 :: vI x :: l) (vI x :: st) σ := (run_eq 148 335 _ _ σ).trans rfl
set_option maxRecDepth 20000 in
theorem e148_336 (ls st : List AV) (σ : St) : run 148 336 (ls) (st) σ = run 148 337 (ls) (vI 1 :: st) σ := (run_eq 148 336 _ _ σ).trans rfl
set_option maxRecDepth 20000 in
theorem e148_337 (ls st : List AV) (σ : St) (y x : Int) : run 148 337 (ls) (vI y :: vI x :: st) σ = run 148 338 (ls) (vI (wr (x + y)) :: st) σ := (run_eq 148 337 _ _ σ).trans rfl
set_option maxRecDepth 20000 in
theorem e148_338 (ls st : List AV) (σ : St) (j : Int) (x : Nat) (h : 0 ≤ j ∧ j < (sl σ : Int)) : run 148 338 (ls) (vI j :: vS x :: st) σ = run 148 339 (ls) (vI (sx σ j.toNat) :: st) σ := (run_eq 148 338 _ _ σ).trans (if_pos h)
set_option maxRecDepth 20000 in
theorem e148_339 (ls st : List AV) (σ : St) (x0 : Nat) (x1 : Int) (h4 : st.length ≤ 4) (h : fok σ x0 3) : run 148 339 ls (vI x1 :: vR x0 :: st) σ = bnd (run 100 0 [vR x0, vI x1] [] σ) (fun r σ => run 148 342 ls (psh r st) σ) := (run_eq 148 339 _ _ σ).trans (if_pos ⟨rfl, by simp, by simpa using h4, rfl, h⟩)
set_option maxRecDepth 20000 in
theorem e148_342 (ls st : List AV) (σ : St) (y x : Int) : run 148 342 (ls) (vI y :: vI x :: st) σ = if x = y then run 148 1016 (ls) (st) σ else run 148 345 (ls) (st) σ := (run_eq 148 342 _ _ σ).trans rfl
set_option maxRecDepth 20000 in
theorem e148_345 (ls st : List AV) (σ : St) : run 148 345 (ls) (st) σ = run 148 346 (ls) (vI 0 :: st) σ := (run_eq 148 345 _ _ σ).trans rfl
set_option maxRecDepth 20000 in
theorem e148_346 (ls : List AV) (σ : St) (x : Int) (h : x = 0 ∨ x = 1) : run 148 346 ls [vI x] σ = some (vI x, σ) := (run_eq 148 346 _ _ σ).trans (if_pos h)
set_option maxRecDepth 20000 in
theorem e148_347 (a0 : AV) (l st : List AV) (σ : St) (x : Nat) : run 148 347 (a0 :: vR x :: l) (st) σ = run 148 348 (a0 :: vR x :: l) (vR x :: st) σ := (run_eq 148 347 _ _ σ).trans rfl
set_option maxRecDepth 20000 in
theorem e148_348 (ls st : List AV) (σ : St) (x0 : Nat) (h4 : st.length ≤ 4) (h : fok σ x0 2) : run 148 348 ls (vR x0 :: st) σ = bnd (run 20 0 [vR x0, vU] [] σ) (fun r σ => run 148 351 ls (psh r st) σ) := (run_eq 148 348 _ _ σ).trans (if_pos ⟨rfl, by simp, by simpa using h4, rfl, h⟩)
set_option maxRecDepth 20000 in
theorem e148_351 (a0 a1 : AV) (l st : List AV) (σ : St) (x : Nat) : run 148 351 (a0 :: a1 :: vR x :: l) (st) σ = run 148 352 (a0 :: a1 :: vR x :: l) (vR x :: st) σ := (run_eq 148 351 _ _ σ).trans rfl
set_option maxRecDepth 20000 in
theorem e148_352 (ls st : List AV) (σ : St) (x0 : Nat) (h4 : st.length ≤ 4) (h : fok σ x0 3) : run 148 352 ls (vR x0 :: st) σ = bnd (run 101 0 [vR x0, vU] [] σ) (fun r σ => run 148 355 ls (psh r st) σ) := (run_eq 148 352 _ _ σ).trans (if_pos ⟨rfl, by simp, by simpa using h4, rfl, h⟩)
set_option maxRecDepth 20000 in
theorem e148_355 (ls st : List AV) (σ : St) (y x : Int) : run 148 355 (ls) (vI y :: vI x :: st) σ = if x = y then run 148 1016 (ls) (st) σ else run 148 358 (ls) (st) σ := (run_eq 148 355 _ _ σ).trans rfl
set_option maxRecDepth 20000 in
theorem e148_358 (ls st : List AV) (σ : St) : run 148 358 (ls) (st) σ = run 148 359 (ls) (vI 0 :: st) σ := (run_eq 148 358 _ _ σ).trans rfl
set_option maxRecDepth 20000 in
theorem e148_359 (ls : List AV) (σ : St) (x : Int) (h : x = 0 ∨ x = 1) : run 148 359 ls [vI x] σ = some (vI x, σ) := (run_eq 148 359 _ _ σ).trans (if_pos h)
set_option maxRecDepth 20000 in
theorem e148_360 (a0 : AV) (l st : List AV) (σ : St) (x : Nat) : run 148 360 (a0 :: vR x :: l) (st) σ = run 148 361 (a0 :: vR x :: l) (vR x :: st) σ := (run_eq 148 360 _ _ σ).trans rfl
set_option maxRecDepth 20000 in
theorem e148_361 (ls st : List AV) (σ : St) (x0 : Nat) (h4 : st.length ≤ 4) (h : fok σ x0 2) : run 148 361 ls (vR x0 :: st) σ = bnd (run 21 0 [vR x0] [] σ) (fun r σ => run 148 364 ls (psh r st) σ) := (run_eq 148 361 _ _ σ).trans (if_pos ⟨rfl, by simp, by simpa using h4, rfl, h⟩)
set_option maxRecDepth 20000 in
theorem e148_364 (a0 a1 : AV) (l st : List AV) (σ : St) (x : Nat) : run 148 364 (a0 :: a1 :: vR x :: l) (st) σ = run 148 365 (a0 :: a1 :: vR x :: l) (vR x :: st) σ := (run_eq 148 364 _ _ σ).trans rfl
set_option maxRecDepth 20000 in
theorem e148_365 (ls st : List AV) (σ : St) (x0 : Nat) (h4 : st.length ≤ 4) (h : fok σ x0 3) : run 148 365 ls (vR x0 :: st) σ = bnd (run 102 0 [vR x0] [] σ) (fun r σ => run 148 368 ls (psh r st) σ) := (run_eq 148 365 _ _ σ).trans (if_pos ⟨rfl, by simp, by simpa using h4, rfl, h⟩)
set_option maxRecDepth 20000 in
theorem e148_368 (ls st : List AV) (σ : St) (y x : Int) : run 148 368 (ls) (vI y :: vI x :: st) σ = if x = y then run 148 1016 (ls) (st) σ else run 148 371 (ls) (st) σ := (run_eq 148 368 _ _ σ).trans rfl
set_option maxRecDepth 20000 in
theorem e148_371 (ls st : List AV) (σ : St) : run 148 371 (ls) (st) σ = run 148 372 (ls) (vI 0 :: st) σ := (run_eq 148 371 _ _ σ).trans rfl
set_option maxRecDepth 20000 in
theorem e148_372 (ls : List AV) (σ : St) (x : Int) (h : x = 0 ∨ x = 1) : run 148 372 ls [vI x] σ = some (vI x, σ) := (run_eq 148 372 _ _ σ).trans (if_pos h)
set_option maxRecDepth 20000 in
theorem e148_373 (a0 : AV) (l st : List AV) (σ : St) (x : Nat) : run 148 373 (a0 :: vR x :: l) (st) σ = run 148 374 (a0 :: vR x :: l) (vR x :: st) σ := (run_eq 148 373 _ _ σ).trans rfl
set_option maxRecDepth 20000 in
theorem e148_374 (l st : List AV) (σ : St) (x : Nat) : run 148 374 (vS x :: l) (st) σ = run 148 375 (vS x :: l) (vS x :: st) σ := (run_eq 148 374 _ _ σ).trans rfl
set_option maxRecDepth 20000 in
theorem e148_375 (a0 a1 a2 : AV) (l st : List AV) (σ : St) (x : Int) : run 148 375 (a0 :: a1 :: a2 :: vI x :: l) (st) σ = run 148 376 (a0 :: a1 :: a2 :: vI x :: l) (vI x :: st) σ := (run_eq 148 375 _ _ σ).trans rfl
set_option maxRecDepth 20000 in
theorem e148_376 (ls st : List AV) (σ : St) : run 148 376 (ls) (st) σ = run 148 377 (ls) (vI 1 :: st) σ := (run_eq 148 376 _ _ σ).trans rfl
set_option maxRecDepth 20000 in
theorem e148_377 (ls st : List AV) (σ : St) (y x : Int) : run 148 377 (ls) (vI y :: vI x :: st) σ = run 148 378 (ls) (vI (wr (x + y)) :: st) σ := (run_eq 148 377 _ _ σ).trans rfl
set_option maxRecDepth 20000 in
theorem e148_378 (ls st : List AV) (σ : St) (j : Int) (x : Nat) (h : 0 ≤ j ∧ j < (sl σ : Int)) : run 148 378 (ls) (vI j :: vS x :: st) σ = run 148 379 (ls) (vI (sx σ j.toNat) :: st) σ := (run_eq 148 378 _ _ σ).trans (if_pos h)
set_option maxRecDepth 20000 in
theorem e148_379 (ls st : List AV) (σ : St) (x0 : Nat) (x1 : Int) (h4 : st.length ≤ 4) (h : fok σ x0 2) : run 148 379 ls (vI x1 :: vR x0 :: st) σ = bnd (run 25 0 [vR x0, vI x1] [] σ) (fun r σ => run 148 382 ls (psh r st) σ) := (run_eq 148 379 _ _ σ).trans (if_pos ⟨rfl, by simp, by simpa using h4, rfl, h⟩)
set_option maxRecDepth 20000 in
theorem e148_382 (a0 a1 : AV) (l st : List AV) (σ : St) (x : Nat) : run 148 382 (a0 :: a1 :: vR x :: l) (st) σ = run 148 383 (a0 :: a1 :: vR x :: l) (vR x :: st) σ := (run_eq 148 382 _ _ σ).trans rfl
set_option maxRecDepth 20000 in
theorem e148_383 (l st : List AV) (σ : St) (x : Nat) : run 148 383 (vS x :: l) (st) σ = run 148 384 (vS x :: l) (vS x :: st) σ := (run_eq 148 383 _ _ σ).trans rfl
set_option maxRecDepth 20000 in
theorem e148_384 (a0 a1 a2 : AV) (l st : List AV) (σ : St) (x : Int) : run 148 384 (a0 :: a1 :: a2 :: vI x :: l) (st) σ = run 148 385 (a0 :: a1 :: a2 :: vI x :: l) (vI x :: st) σ := (run_eq 148 384 _ _ σ).trans rfl
set_option maxRecDepth 20000 in
theorem e148_385 (ls st : List AV) (σ : St) : run 148 385 (ls) (st) σ = run 148 386 (ls) (vI 1 :: st) σ := (run_eq 148 385 _ _ σ).trans rfl
set_option maxRecDepth 20000 in
theorem e148_386 (ls st : List AV) (σ : St) (y x : Int) : run 148 386 (ls) (vI y :: vI x :: st) σ = run 148 387 (ls) (vI (wr (x + y)) :: st) σ := (run_eq 148 386 _ _ σ).trans rfl
set_option maxRecDepth 20000 in
theorem e148_387 (ls st : List AV) (σ : St) (j : Int) (x : Nat) (h : 0 ≤ j ∧ j < (sl σ : Int)) : run 148 387 (ls) (vI j :: vS x :: st) σ = run 148 388 (ls) (vI (sx σ j.toNat) :: st) σ := (run_eq 148 387 _ _ σ).trans (if_pos h)
set_option maxRecDepth 20000 in
theorem e148_388 (ls st : List AV) (σ : St) (x0 : Nat) (x1 : Int) (h4 : st.length ≤ 4) (h : fok σ x0 3) : run 148 388 ls (vI x1 :: vR x0 :: st) σ = bnd (run 105 0 [vR x0, vI x1, vU] [] σ) (fun r σ => run 148 391 ls (psh r st) σ) := (run_eq 148 388 _ _ σ).trans (if_pos ⟨rfl, by simp, by simpa using h4, rfl, h⟩)
set_option maxRecDepth 20000 in
theorem e148_391 (ls st : List AV) (σ : St) (y x : Int) : run 148 391 (ls) (vI y :: vI x :: st) σ = if x = y then run 148 1016 (ls) (st) σ else run 148 394 (ls) (st) σ := (run_eq 148 391 _ _ σ).trans rfl
set_option maxRecDepth 20000 in
theorem e148_394 (ls st : List AV) (σ : St) : run 148 394 (ls) (st) σ = run 148 395 (ls) (vI 0 :: st) σ := (run_eq 148 394 _ _ σ).trans rfl
set_option maxRecDepth 20000 in
theorem e148_395 (ls : List AV) (σ : St) (x : Int) (h : x = 0 ∨ x = 1) : run 148 395 ls [vI x] σ = some (vI x, σ) := (run_eq 148 395 _ _ σ).trans (if_pos h)
set_option maxRecDepth 20000 in
theorem e148_396 (a0 : AV) (l st : List AV) (σ : St) (x : Nat) : run 148 396 (a0 :: vR x :: l) (st) σ = run 148 397 (a0 :: vR x :: l) (vR x :: st) σ := (run_eq 148 396 _ _ σ).trans rfl
set_option maxRecDepth 20000 in
theorem e148_397 (ls st : List AV) (σ : St) (x0 : Nat) (h4 : st.length ≤ 4) (h : fok σ x0 2) : run 148 397 ls (vR x0 :: st) σ = bnd (run 38 0 [vR x0] [] σ) (fun r σ => run 148 400 ls (psh r st) σ) := (run_eq 148 397 _ _ σ).trans (if_pos ⟨rfl, by simp, by simpa using h4, rfl, h⟩)
set_option maxRecDepth 20000 in
theorem e148_400 (a0 a1 : AV) (l st : List AV) (σ : St) (x : Nat) : run 148 400 (a0 :: a1 :: vR x :: l) (st) σ = run 148 401 (a0 :: a1 :: vR x :: l) (vR x :: st) σ := (run_eq 148 400 _ _ σ).trans rfl
set_option maxRecDepth 20000 in
theorem e148_401 (ls st : List AV) (σ : St) (x0 : Nat) (h4 : st.length ≤ 4) (h : fok σ x0 3) : run 148 401 ls (vR x0 :: st) σ = bnd (run 112 0 [vR x0, vU] [] σ) (fun r σ => run 148 404 ls (psh r st) σ) := (run_eq 148 401 _ _ σ).trans (if_pos ⟨rfl, by simp, by simpa using h4, rfl, h⟩)
set_option maxRecDepth 20000 in
theorem e148_404 (ls st : List AV) (σ : St) (y x : Int) : run 148 404 (ls) (vI y :: vI x :: st) σ = if x = y then run 148 1016 (ls) (st) σ else run 148 407 (ls) (st) σ := (run_eq 148 404 _ _ σ).trans rfl
set_option maxRecDepth 20000 in
theorem e148_407 (ls st : List AV) (σ : St) : run 148 407 (ls) (st) σ = run 148 408 (ls) (vI 0 :: st) σ := (run_eq 148 407 _ _ σ).trans rfl
set_option maxRecDepth 20000 in
theorem e148_408 (ls : List AV) (σ : St) (x : Int) (h : x = 0 ∨ x = 1) : run 148 408 ls [vI x] σ = some (vI x, σ) := (run_eq 148 408 _ _ σ).trans (if_pos h)
set_option maxRecDepth 20000 in
theorem e148_409 (a0 : AV) (l st : List AV) (σ : St) (x : Nat) : run 148 409 (a0 :: vR x :: l) (st) σ = run 148 410 (a0 :: vR x :: l) (vR x :: st) σ := (run_eq 148 409 _ _ σ).trans rfl
set_option maxRecDepth 20000 in
theorem e148_410 (l st : List AV) (σ : St) (x : Nat) : run 148 410 (vS x :: l) (st) σ = run 148 411 (vS x :: l) (vS x :: st) σ := (run_eq 148 410 _ _ σ).trans rfl
set_option maxRecDepth 20000 in
theorem e148_411 (a0 a1 a2 : AV) (l st : List AV) (σ : St) (x : Int) : run 148 411 (a0 :: a1 :: a2 :: vI x :: l) (st) σ = run 148 412 (a0 :: a1 :: a2 :: vI x :: l) (vI x :: st) σ := (run_eq 148 411 _ _ σ).trans rfl
set_option maxRecDepth 20000 in
theorem e148_412 (ls st : List AV) (σ : St) : run 148 412 (ls) (st) σ = run 148 413 (ls) (vI 1 :: st) σ := (run_eq 148 412 _ _ σ).trans rfl
set_option maxRecDepth 20000 in
theorem e148_413 (ls st : List AV) (σ : St) (y x : Int) : run 148 413 (ls) (vI y :: vI x :: st) σ = run 148 414 (ls) (vI (wr (x + y)) :: st) σ := (run_eq 148 413 _ _ σ).trans rfl
set_option maxRecDepth 20000 in
theorem e148_414 (ls st : List AV) (σ : St) (j : Int) (x : Nat) (h : 0 ≤ j ∧ j < (sl σ : Int)) : run 148 414 (ls) (vI j :: vS x :: st) σ = run 148 415 (ls) (vI (sx σ j.toNat) :: st) σ := (run_eq 148 414 _ _ σ).trans (if_pos h)
set_option maxRecDepth 20000 in
theorem e148_415 (l st : List AV) (σ : St) (x : Nat) : run 148 415 (vS x :: l) (st) σ = run 148 416 (vS x :: l) (vS x :: st) σ := (run_eq 148 415 _ _ σ).trans rfl
set_option maxRecDepth 20000 in
theorem e148_416 (a0 a1 a2 : AV) (l st : List AV) (σ : St) (x : Int) : run 148 416 (a0 :: a1 :: a2 :: vI x :: l) (st) σ = run 148 417 (a0 :: a1 :: a2 :: vI x :: l) (vI x :: st) σ := (run_eq 148 416 _ _ σ).trans rfl
set_option maxRecDepth 20000 in
theorem e148_417 (ls st : List AV) (σ : St) : run 148 417 (ls) (st) σ = run 148 418 (ls) (vI 2 :: st) σ := (run_eq 148 417 _ _ σ).trans rfl
set_option maxRecDepth 20000 in
theorem e148_418 (ls st : List AV) (σ : St) (y x : Int) : run 148 418 (ls) (vI y :: vI x :: st) σ = run 148 419 (ls) (vI (wr (x + y)) :: st) σ := (run_eq 148 418 _ _ σ).trans rfl
set_option maxRecDepth 20000 in
theorem e148_419 (ls st : List AV) (σ : St) (j : Int) (x : Nat) (h : 0 ≤ j ∧ j < (sl σ : Int)) : run 148 419 (ls) (vI j :: vS x :: st) σ = run 148 420 (ls) (vI (sx σ j.toNat) :: st) σ := (run_eq 148 419 _ _ σ).trans (if_pos h)
set_option maxRecDepth 20000 in
theorem e148_420 (ls st : List AV) (σ : St) (x0 : Nat) (x1 : Int) (x2 : Int) (h4 : st.length ≤ 4) (h : fok σ x0 2) : run 148 420 ls (vI x2 :: vI x1 :: vR x0 :: st) σ = bnd (run 40 0 [vR x0, vI x1, vI x2] [] σ) (fun r σ => run 148 423 ls (psh r st) σ) := (run_eq 148 420 _ _ σ).trans (if_pos ⟨rfl, by simp, by simpa using h4, rfl, h⟩)
set_option maxRecDepth 20000 in
theorem e148_423 (a0 a1 : AV) (l st : List AV) (σ : St) (x : Nat) : run 148 423 (a0 :: a1 :: vR x :: l) (st) σ = run 148 424 (a0 :: a1 :: vR x :: l) (vR x :: st) σ := (run_eq 148 423 _ _ σ).trans rfl
set_option maxRecDepth 20000 in
theorem e148_424 (l st : List AV) (σ : St) (x : Nat) : run 148 424 (vS x :: l) (st) σ = run 148 425 (vS x :: l) (vS x :: st) σ := (run_eq 148 424 _ _ σ).trans rfl
set_option maxRecDepth 20000 in
theorem e148_425 (a0 a1 a2 : AV) (l st : List AV) (σ : St) (x : Int) : run 148 425 (a0 :: a1 :: a2 :: vI x :: l) (st) σ = run 148 426 (a0 :: a1 :: a2 :: vI x :: l) (vI x :: st) σ := (run_eq 148 425 _ _ σ).trans rfl
set_option maxRecDepth 20000 in
theorem e148_426 (ls st : List AV) (σ : St) : run 148 426 (ls) (st) σ = run 148 427 (ls) (vI 1 :: st) σ := (run_eq 148 426 _ _ σ).trans rfl
set_option maxRecDepth 20000 in
theorem e148_427 (ls st : List AV) (σ : St) (y x : Int) : run 148 427 (ls) (vI y :: vI x :: st) σ = run 148 428 (ls) (vI (wr (x + y)) :: st) σ := (run_eq 148 427 _ _ σ).trans rfl
set_option maxRecDepth 20000 in
theorem e148_428 (ls st : List AV) (σ : St) (j : Int) (x : Nat) (h : 0 ≤ j ∧ j < (sl σ : Int)) : run 148 428 (ls) (vI j :: vS x :: st) σ = run 148 429 (ls) (vI (sx σ j.toNat) :: st) σ := (run_eq 148 428 _ _ σ).trans (if_pos h)
set_option maxRecDepth 20000 in
theorem e148_429 (l st : List AV) (σ : St) (x : Nat) : run 148 429 (vS x :: l) (st) σ = run 148 430 (vS x :: l) (vS x :: st) σ := (run_eq 148 429 _ _ σ).trans rfl
set_option maxRecDepth 20000 in
theorem e148_430 (a0 a1 a2 : AV) (l st : List AV) (σ : St) (x : Int) : run 148 430 (a0 :: a1 :: a2 :: vI x :: l) (st) σ = run 148 431 (a0 :: a1 :: a2 :: vI x :: l) (vI x :: st) σ := (run_eq 148 430 _ _ σ).trans rfl
set_option maxRecDepth 20000 in
theorem e148_431 (ls st : List AV) (σ : St) : run 148 431 (ls) (st) σ = run 148 432 (ls) (vI 2 :: st) σ := (run_eq 148 431 _ _ σ).trans rfl
set_option maxRecDepth 20000 in
theorem e148_432 (ls st : List AV) (σ : St) (y x : Int) : run 148 432 (ls) (vI y :: vI x :: st) σ = run 148 433 (ls) (vI (wr (x + y)) :: st) σ := (run_eq 148 432 _ _ σ).trans rfl
set_option maxRecDepth 20000 in
theorem e148_433 (ls st : List AV) (σ : St) (j : Int) (x : Nat) (h : 0 ≤ j ∧ j < (sl σ : Int)) : run 148 433 (ls) (vI j :: vS x :: st) σ = run 148 434 (ls) (vI (sx σ j.toNat) :: st) σ := (run_eq 148 433 _ _ σ).trans (if_pos h)
set_option maxRecDepth 20000 in
theorem e148_434 (ls st : List AV) (σ : St) (x0 : Nat) (x1 : Int) (x2 : Int) (h4 : st.length ≤ 4) (h : fok σ x0 3) : run 148 434 ls (vI x2 :: vI x1 :: vR x0 :: st) σ = bnd (run 114 0 [vR x0, vI x1, vI x2] [] σ) (fun r σ => run 148 437 ls (psh r st) σ) := (run_eq 148 434 _ _ σ).trans (if_pos ⟨rfl, by simp, by simpa using h4, rfl, h⟩)
set_option maxRecDepth 20000 in
theorem e148_437 (ls st : List AV) (σ : St) (y x : Int) : run 148 437 (ls) (vI y :: vI x :: st) σ = if x = y then run 148 1016 (ls) (st) σ else run 148 440 (ls) (st) σ := (run_eq 148 437 _ _ σ).trans rfl
set_option maxRecDepth 20000 in
theorem e148_440 (ls st : List AV) (σ : St) : run 148 440 (ls) (st) σ = run 148 441 (ls) (vI 0 :: st) σ := (run_eq 148 440 _ _ σ).trans rfl
set_option maxRecDepth 20000 in
theorem e148_441 (ls : List AV) (σ : St) (x : Int) (h : x = 0 ∨ x = 1) : run 148 441 ls [vI x] σ = some (vI x, σ) := (run_eq 148 441 _ _ σ).trans (if_pos h)
set_option maxRecDepth 20000 in
theorem e148_442 (a0 : AV) (l st : List AV) (σ : St) (x : Nat) : run 148 442 (a0 :: vR x :: l) (st) σ = run 148 443 (a0 :: vR x :: l) (vR x :: st) σ := (run_eq 148 442 _ _ σ).trans rfl
set_option maxRecDepth 20000 in
theorem e148_443 (l st : List AV) (σ : St) (x : Nat) : run 148 443 (vS x :: l) (st) σ = run 148 444 (vS x :: l) (vS x :: st) σ := (run_eq 148 443 _ _ σ).trans rfl
set_option maxRecDepth 20000 in
theorem e148_444 (a0 a1 a2 : AV) (l st : List AV) (σ : St) (x : Int) : run 148 444 (a0 :: a1 :: a2 :: vI x :: l) (st) σ = run 148 445 (a0 :: a1 :: a2 :: vI x :: l) (vI x :: st) σ := (run_eq 148 444 _ _ σ).trans rfl
set_option maxRecDepth 20000 in
theorem e148_445 (ls st : List AV) (σ : St) : run 148 445 (ls) (st) σ = run 148 446 (ls) (vI 1 :: st) σ := (run_eq 148 445 _ _ σ).trans rfl
set_option maxRecDepth 20000 in
theorem e148_446 (ls st : List AV) (σ : St) (y x : Int) : run 148 446 (ls) (vI y :: vI x :: st) σ = run 148 447 (ls) (vI (wr (x + y)) :: st) σ := (run_eq 148 446 _ _ σ).trans rfl
set_option maxRecDepth 20000 in
theorem e148_447 (ls st : List AV) (σ : St) (j : Int) (x : Nat) (h : 0 ≤ j ∧ j < (sl σ : Int)) : run 148 447 (ls) (vI j :: vS x :: st) σ = run 148 448 (ls) (vI (sx σ j.toNat) :: st) σ := (run_eq 148 447 _ _ σ).trans (if_pos h)
set_option maxRecDepth 20000 in
theorem e148_448 (l st : List AV) (σ : St) (x : Nat) : run 148 448 (vS x :: l) (st) σ = run 148 449 (vS x :: l) (vS x :: st) σ := (run_eq 148 448 _ _ σ).trans rfl
set_option maxRecDepth 20000 in
theorem e148_449 (a0 a1 a2 : AV) (l st : List AV) (σ : St) (x : Int) : run 148 449 (a0 :: a1 :: a2 :: vI x :: l) (st) σ = run 148 450 (a0 :: a1 :: a2 :: vI x :: l) (vI x :: st) σ := (run_eq 148 449 _ _ σ).trans rfl
set_option maxRecDepth 20000 in
theorem e148_450 (ls st : List AV) (σ : St) : run 148 450 (ls) (st) σ = run 148 451 (ls) (vI 2 :: st) σ := (run_eq 148 450 _ _ σ).trans rfl
set_option maxRecDepth 20000 in
theorem e148_451 (ls st : List AV) (σ : St) (y x : Int) : run 148 451 (ls) (vI y :: vI x :: st) σ = run 148 452 (ls) (vI (wr (x + y)) :: st) σ := (run_eq 148 451 _ _ σ).trans rfl
set_option maxRecDepth 20000 in
theorem e148_452 (ls st : List AV) (σ : St) (j : Int) (x : Nat) (h : 0 ≤ j ∧ j < (sl σ : Int)) : run 148 452 (ls) (vI j :: vS x :: st) σ = run 148 453 (ls) (vI (sx σ j.toNat) :: st) σ := (run_eq 148 452 _ _ σ).trans (if_pos h)
set_option maxRecDepth 20000 in
theorem e148_453 (ls st : List AV) (σ : St) (x0 : Nat) (x1 : Int) (x2 : Int) (h4 : st.length ≤ 4) (h : fok σ x0 2) : run 148 453 ls (vI x2 :: vI x1 :: vR x0 :: st) σ = bnd (run 41 0 [vR x0, vI x1, vI x2] [] σ) (fun r σ => run 148 456 ls (psh r st) σ) := (run_eq 148 453 _ _ σ).trans (if_pos ⟨rfl, by simp, by simpa using h4, rfl, h⟩)
set_option maxRecDepth 20000 in
theorem e148_456 (a0 a1 : AV) (l st : List AV) (σ : St) (x : Nat) : run 148 456 (a0 :: a1 :: vR x :: l) (st) σ = run 148 457 (a0 :: a1 :: vR x :: l) (vR x :: st) σ := (run_eq 148 456 _ _ σ).trans rfl
set_option maxRecDepth 20000 in
theorem e148_457 (l st : List AV) (σ : St) (x : Nat) : run 148 457 (vS x :: l) (st) σ = run 148 458 (vS x :: l) (vS x :: st) σ := (run_eq 148 457 _ _ σ).trans rfl
set_option maxRecDepth 20000 in
theorem e148_458 (a0 a1 a2 : AV) (l st : List AV) (σ : St) (x : Int) : run 148 458 (a0 :: a1 :: a2 :: vI x :: l) (st) σ = run 148 459 (a0 :: a1 :: a2 :: vI x :: l) (vI x :: st) σ := (run_eq 148 458 _ _ σ).trans rfl
set_option maxRecDepth 20000 in
theorem e148_459 (ls st : List AV) (σ : St) : run 148 459 (ls) (st) σ = run 148 460 (ls) (vI 1 :: st) σ := (run_eq 148 459 _ _ σ).trans rfl
set_option maxRecDepth 20000 in
theorem e148_460 (ls st : List AV) (σ : St) (y x : Int) : run 148 460 (ls) (vI y :: vI x :: st) σ = run 148 461 (ls) (vI (wr (x + y)) :: st) σ := (run_eq 148 460 _ _ σ).trans rfl
set_option maxRecDepth 20000 in
theorem e148_461 (ls st : List AV) (σ : St) (j : Int) (x : Nat) (h : 0 ≤ j ∧ j < (sl σ : Int)) : run 148 461 (ls) (vI j :: vS x :: st) σ = run 148 462 (ls) (vI (sx σ j.toNat) :: st) σ := (run_eq 148 461 _ _ σ).trans (if_pos h)
set_option maxRecDepth 20000 in
theorem e148_462 (l st : List AV) (σ : St) (x : Nat) : run 148 462 (vS x :: l) (st) σ = run 148 463 (vS x :: l) (vS x :: st) σ := (run_eq 148 462 _ _ σ).trans rfl
set_option maxRecDepth 20000 in
theorem e148_463 (a0 a1 a2 : AV) (l st : List AV) (σ : St) (x : Int) : run 148 463 (a0 :: a1 :: a2 :: vI x :: l) (st) σ = run 148 464 (a0 :: a1 :: a2 :: vI x :: l) (vI x :: st) σ := (run_eq 148 463 _ _ σ).trans rfl
set_option maxRecDepth 20000 in
theorem e148_464 (ls st : List AV) (σ : St) : run 148 464 (ls) (st) σ = run 148 465 (ls) (vI 2 :: st) σ := (run_eq 148 464 _ _ σ).trans rfl
set_option maxRecDepth 20000 in
theorem e148_465 (ls st : List AV) (σ : St) (y x : Int) : run 148 465 (ls) (vI y :: vI x :: st) σ = run 148 466 (ls) (vI (wr (x + y)) :: st) σ := (run_eq 148 465 _ _ σ).trans rfl
set_option maxRecDepth 20000 in
theorem e148_466 (ls st : List AV) (σ : St) (j : Int) (x : Nat) (h : 0 ≤ j ∧ j < (sl σ : Int)) : run 148 466 (ls) (vI j :: vS x :: st) σ = run 148 467 (ls) (vI (sx σ j.toNat) :: st) σ := (run_eq 148 466 _ _ σ).trans (if_pos h)
set_option maxRecDepth 20000 in
theorem e148_467 (ls st : List AV) (σ : St) (x0 : Nat) (x1 : Int) (x2 : Int) (h4 : st.length ≤ 4) (h : fok σ x0 3) : run 148 467 ls (vI x2 :: vI x1 :: vR x0 :: st) σ = bnd (run 115 0 [vR x0, vI x1, vI x2] [] σ) (fun r σ => run 148 470 ls (psh r st) σ) := (run_eq 148 467 _ _ σ).trans (if_pos ⟨rfl, by simp, by simpa using h4, rfl, h⟩)
set_option maxRecDepth 20000 in
theorem e148_470 (ls st : List AV) (σ : St) (y x : Int) : run 148 470 (ls) (vI y :: vI x :: st) σ = if x = y then run 148 1016 (ls) (st) σ else run 148 473 (ls) (st) σ := (run_eq 148 470 _ _ σ).trans rfl
set_option maxRecDepth 20000 in
theorem e148_473 (ls st : List AV) (σ : St) : run 148 473 (ls) (st) σ = run 148 474 (ls) (vI 0 :: st) σ := (run_eq 148 473 _ _ σ).trans rfl
set_option maxRecDepth 20000 in
theorem e148_474 (ls : List AV) (σ : St) (x : Int) (h : x = 0 ∨ x = 1) : run 148 474 ls [vI x] σ = some (vI x, σ) := (run_eq 148 474 _ _ σ).trans (if_pos h)
set_option maxRecDepth 20000 in
theorem e148_475 (a0 : AV) (l st : List AV) (σ : St) (x : Nat) : run 148 475 (a0 :: vR x :: l) (st) σ = run 148 476 (a0 :: vR x :: l) (vR x :: st) σ := (run_eq 148 475 _ _ σ).trans rfl
set_option maxRecDepth 20000 in
theorem e148_476 (l st : List AV) (σ : St) (x : Nat) : run 148 476 (vS x :: l) (st) σ = run 148 477 (vS x :: l) (vS x :: st) σ := (run_eq 148 476 _ _ σ).trans rfl
set_option maxRecDepth 20000 in
theorem e148_477 (a0 a1 a2 : AV) (l st : List AV) (σ : St) (x : Int) : run 148 477 (a0 :: a1 :: a2 :: vI x :: l) (st) σ = run 148 478 (a0 :: a1 :: a2 :: vI x :: l) (vI x :: st) σ := (run_eq 148 477 _ _ σ).trans rfl
set_option maxRecDepth 20000 in
theorem e148_478 (ls st : List AV) (σ : St) : run 148 478 (ls) (st) σ = run 148 479 (ls) (vI 1 :: st) σ := (run_eq 148 478 _ _ σ).trans rfl
set_option maxRecDepth 20000 in
theorem e148_479 (ls st : List AV) (σ : St) (y x : Int) : run 148 479 (ls) (vI y :: vI x :: st) σ = run 148 480 (ls) (vI (wr (x + y)) :: st) σ := (run_eq 148 479 _ _ σ).trans rfl
set_option maxRecDepth 20000 in
theorem e148_480 (ls st : List AV) (σ : St) (j : Int) (x : Nat) (h : 0 ≤ j ∧ j < (sl σ : Int)) : run 148 480 (ls) (vI j :: vS x :: st) σ = run 148 481 (ls) (vI (sx σ j.toNat) :: st) σ := (run_eq 148 480 _ _ σ).trans (if_pos h)
set_option maxRecDepth 20000 in
theorem e148_481 (ls st : List AV) (σ : St) (x0 : Nat) (x1 : Int) (h4 : st.length ≤ 4) (h : fok σ x0 2) : run 148 481 ls (vI x1 :: vR x0 :: st) σ = bnd (run 42 0 [vR x0, vI x1] [] σ) (fun r σ => run 148 484 ls (psh r st) σ) := (run_eq 148 481 _ _ σ).trans (if_pos ⟨rfl, by simp, by simpa using h4, rfl, h⟩)
set_option maxRecDepth 20000 in
theorem e148_484 (a0 a1 : AV) (l st : List AV) (σ : St) (x : Nat) : run 148 484 (a0 :: a1 :: vR x :: l) (st) σ = run 148 485 (a0 :: a1 :: vR x :: l) (vR x :: st) σ := (run_eq 148 484 _ _ σ).trans rfl
set_option maxRecDepth 20000 in
theorem e148_485 (l st : List AV) (σ : St) (x : Nat) : run 148 485 (vS x :: l) (st) σ = run 148 486 (vS x :: l) (vS x :: st) σ := (run_eq 148 485 _ _ σ).trans rfl
set_option maxRecDepth 20000 in
theorem e148_486 (a0 a1 a2 : AV) (l st : List AV) (σ : St) (x : Int) : run 148 486 (a0 :: a1 :: a2 :: vI x :: l) (st) σ = run 148 487 (a0 :: a1 :: a2 :: vI x :: l) (vI x :: st) σ := (run_eq 148 486 _ _ σ).trans rfl
set_option maxRecDepth 20000 in
theorem e148_487 (ls st : List AV) (σ : St) : run 148 487 (ls) (st) σ = run 148 488 (ls) (vI 1 :: st) σ := (run_eq 148 487 _ _ σ).trans rfl
set_option maxRecDepth 20000 in
theorem e148_488 (ls st : List AV) (σ : St) (y x : Int) : run 148 488 (ls) (vI y :: vI x :: st) σ = run 148 489 (ls) (vI (wr (x + y)) :: st) σ := (run_eq 148 488 _ _ σ).trans rfl
set_option maxRecDepth 20000 in
theorem e148_489 (ls st : List AV) (σ : St) (j : Int) (x : Nat) (h : 0 ≤ j ∧ j < (sl σ : Int)) : run 148 489 (ls) (vI j :: vS x :: st) σ = run 148 490 (ls) (vI (sx σ j.toNat) :: st) σ := (run_eq 148 489 _ _ σ).trans (if_pos h)
set_option maxRecDepth 20000 in
theorem e148_490 (ls st : List AV) (σ : St) (x0 : Nat) (x1 : Int) (h4 : st.length ≤ 4) (h : fok σ x0 3) : run 148 490 ls (vI x1 :: vR x0 :: st) σ = bnd (run 116 0 [vR x0, vI x1] [] σ) (fun r σ => run 148 493 ls (psh r st) σ) := (run_eq 148 490 _ _ σ).trans (if_pos ⟨rfl, by simp, by simpa using h4, rfl, h⟩)
set_option maxRecDepth 20000 in
theorem e148_493 (ls st : List AV) (σ : St) (y x : Int) : run 148 493 (ls) (vI y :: vI x :: st) σ = if x = y then run 148 1016 (ls) (st) σ else run 148 496 (ls) (st) σ := (run_eq 148 493 _ _ σ).trans rfl
set_option maxRecDepth 20000 in
theorem e148_496 (ls st : List AV) (σ : St) : run 148 496 (ls) (st) σ = run 148 497 (ls) (vI 0 :: st) σ := (run_eq 148 496 _ _ σ).trans rfl
set_option maxRecDepth 20000 in
theorem e148_497 (ls : List AV) (σ : St) (x : Int) (h : x = 0 ∨ x = 1) : run 148 497 ls [vI x] σ = some (vI x, σ) := (run_eq 148 497 _ _ σ).trans (if_pos h)
set_option maxRecDepth 20000 in
theorem e148_498 (a0 : AV) (l st : List AV) (σ : St) (x : Nat) : run 148 498 (a0 :: vR x :: l) (st) σ = run 148 499 (a0 :: vR x :: l) (vR x :: st) σ := (run_eq 148 498 _ _ σ).trans rfl
set_option maxRecDepth 20000 in
theorem e148_499 (l st : List AV) (σ : St) (x : Nat) : run 148 499 (vS x :: l) (st) σ = run 148 500 (vS x :: l) (vS x :: st) σ := (run_eq 148 499 _ _ σ).trans rfl
set_option maxRecDepth 20000 in
theorem e148_500 (a0 a1 a2 : AV) (l st : List AV) (σ : St) (x : Int) : run 148 500 (a0 :: a1 :: a2 :: vI x :: l) (st) σ = run 148 501 (a0 :: a1 :: a2 :: vI x :: l) (vI x :: st) σ := (run_eq 148 500 _ _ σ).trans rfl
set_option maxRecDepth 20000 in
theorem e148_501 (ls st : List AV) (σ : St) : run 148 501 (ls) (st) σ = run 148 502 (ls) (vI 1 :: st) σ := (run_eq 148 501 _ _ σ).trans rfl
set_option maxRecDepth 20000 in
theorem e148_502 (ls st : List AV) (σ : St) (y x : Int) : run 148 502 (ls) (vI y :: vI x :: st) σ = run 148 503 (ls) (vI (wr (x + y)) :: st) σ := (run_eq 148 502 _ _ σ).trans rfl
set_option maxRecDepth 20000 in
theorem e148_503 (ls st : List AV) (σ : St) (j : Int) (x : Nat) (h : 0 ≤ j ∧ j < (sl σ : Int)) : run 148 503 (ls) (vI j :: vS x :: st) σ = run 148 504 (ls) (vI (sx σ j.toNat) :: st) σ := (run_eq 148 503 _ _ σ).trans (if_pos h)
set_option maxRecDepth 20000 in
theorem e148_504 (ls st : List AV) (σ : St) (x0 : Nat) (x1 : Int) (h4 : st.length ≤ 4) (h : fok σ x0 2) : run 148 504 ls (vI x1 :: vR x0 :: st) σ = bnd (run 44 0 [vR x0, vI x1] [] σ) (fun r σ => run 148 507 ls (psh r st) σ) := (run_eq 148 504 _ _ σ).trans (if_pos ⟨rfl, by simp, by simpa using h4, rfl, h⟩)
set_option maxRecDepth 20000 in
theorem e148_507 (a0 a1 : AV) (l st : List AV) (σ : St) (x : Nat) : run 148 507 (a0 :: a1 :: vR x :: l) (st) σ = run 148 508 (a0 :: a1 :: vR x :: l) (vR x :: st) σ := (run_eq 148 507 _ _ σ).trans rfl
set_option maxRecDepth 20000 in
theorem e148_508 (l st : List AV) (σ : St) (x : Nat) : run 148 508 (vS x :: l) (st) σ = run 148 509 (vS x :: l) (vS x :: st) σ := (run_eq 148 508 _ _ σ).trans rfl
set_option maxRecDepth 20000 in
theorem e148_509 (a0 a1 a2 : AV) (l st : List AV) (σ : St) (x : Int) : run 148 509 (a0 :: a1 :: a2 :: vI x :: l) (st) σ = run 148 510 (a0 :: a1 :: a2 :: vI x :: l) (vI x :: st) σ := (run_eq 148 509 _ _ σ).trans rfl
set_option maxRecDepth 20000 in
theorem e148_510 (ls st : List AV) (σ : St) : run 148 510 (ls) (st) σ = run 148 511 (ls) (vI 1 :: st) σ := (run_eq 148 510 _ _ σ).trans rfl
set_option maxRecDepth 20000 in
theorem e148_511 (ls st : List AV) (σ : St) (y x : Int) : run 148 511 (ls) (vI y :: vI x :: st) σ = run 148 512 (ls) (vI (wr (x + y)) :: st) σ := (run_eq 148 511 _ _ σ).trans rfl
set_option maxRecDepth 20000 in
theorem e148_512 (ls st : List AV) (σ : St) (j : Int) (x : Nat) (h : 0 ≤ j ∧ j < (sl σ : Int)) : run 148 512 (ls) (vI j :: vS x :: st) σ = run 148 513 (ls) (vI (sx σ j.toNat) :: st) σ := (run_eq 148 512 _ _ σ).trans (if_pos h)
set_option maxRecDepth 20000 in
theorem e148_513 (ls st : List AV) (σ : St) (x0 : Nat) (x1 : Int) (h4 : st.length ≤ 4) (h : fok σ x0 3) : run 148 513 ls (vI x1 :: vR x0 :: st) σ = bnd (run 118 0 [vR x0, vI x1] [] σ) (fun r σ => run 148 516 ls (psh r st) σ) := (run_eq 148 513 _ _ σ).trans (if_pos ⟨rfl, by simp, by simpa using h4, rfl, h⟩)
set_option maxRecDepth 20000 in
theorem e148_516 (ls st : List AV) (σ : St) (y x : Int) : run 148 516 (ls) (vI y :: vI x :: st) σ = if x = y then run 148 1016 (ls) (st) σ else run 148 519 (ls) (st) σ := (run_eq 148 516 _ _ σ).trans rfl
set_option maxRecDepth 20000 in
theorem e148_519 (ls st : List AV) (σ : St) : run 148 519 (ls) (st) σ = run 148 520 (ls) (vI 0 :: st) σ := (run_eq 148 519 _ _ σ).trans rfl
set_option maxRecDepth 20000 in
theorem e148_520 (ls : List AV) (σ : St) (x : Int) (h : x = 0 ∨ x = 1) : run 148 520 ls [vI x] σ = some (vI x, σ) := (run_eq 148 520 _ _ σ).trans (if_pos h)
set_option maxRecDepth 20000 in
theorem e148_521 (a0 : AV) (l st : List AV) (σ : St) (x : Nat) : run 148 521 (a0 :: vR x :: l) (st) σ = run 148 522 (a0 :: vR x :: l) (vR x :: st) σ := (run_eq 148 521 _ _ σ).trans rfl
set_option maxRecDepth 20000 in
theorem e148_522 (ls st : List AV) (σ : St) (x0 : Nat) (h4 : st.length ≤ 4) (h : fok σ x0 2) : run 148 522 ls (vR x0 :: st) σ = bnd (run 45 0 [vR x0, vU, vU, vU, vU] [] σ) (fun r σ => run 148 525 ls (psh r st) σ) := (run_eq 148 522 _ _ σ).trans (if_pos ⟨rfl, by simp, by simpa using h4, rfl, h⟩)
set_option maxRecDepth 20000 in
theorem e148_525 (a0 a1 : AV) (l st : List AV) (σ : St) (x : Nat) : run 148 525 (a0 :: a1 :: vR x :: l) (st) σ = run 148 526 (a0 :: a1 :: vR x :: l) (vR x :: st) σ := (run_eq 148 525 _ _ σ).trans rfl
set_option maxRecDepth 20000 in
theorem e148_526 (ls st : List AV) (σ : St) (x0 : Nat) (h4 : st.length ≤ 4) (h : fok σ x0 3) : run 148 526 ls (vR x0 :: st) σ = bnd (run 119 0 [vR x0, vU, vU, vU, vU] [] σ) (fun r σ => run 148 529 ls (psh r st) σ) := (run_eq 148 526 _ _ σ).trans (if_pos ⟨rfl, by simp, by simpa using h4, rfl, h⟩)
set_option maxRecDepth 20000 in
theorem e148_529 (ls st : List AV) (σ : St) (y x : Int) : run 148 529 (ls) (vI y :: vI x :: st) σ = if x = y then run 148 1016 (ls) (st) σ else run 148 532 (ls) (st) σ := (run_eq 148 529 _ _ σ).trans rfl
set_option maxRecDepth 20000 in
theorem e148_532 (ls st : List AV) (σ : St) : run 148 532 (ls) (st) σ = run 148 533 (ls) (vI 0 :: st) σ := (run_eq 148 532 _ _ σ).trans rfl
set_option maxRecDepth 20000 in
theorem e148_533 (ls : List AV) (σ : St) (x : Int) (h : x = 0 ∨ x = 1) : run 148 533 ls [vI x] σ = some (vI x, σ) := (run_eq 148 533 _ _ σ).trans (if_pos h)
set_option maxRecDepth 20000 in
theorem e148_534 (a0 : AV) (l st : List AV) (σ : St) (x : Nat) : run 148 534 (a0 :: vR x :: l) (st) σ = run 148 535 (a0 :: vR x :: l) (vR x :: st) σ := (run_eq 148 534 _ _ σ).trans rfl
set_option maxRecDepth 20000 in
theorem e148_535 (l st : List AV) (σ : St) (x : Nat) : run 148 535 (vS x :: l) (st) σ = run 148 536 (vS x :: l) (vS x :: st) σ := (run_eq 148 535 _ _ σ).trans rfl
set_option maxRecDepth 20000 in
theorem e148_536 (a0 a1 a2 : AV) (l st : List AV) (σ : St) (x : Int) : run 148 536 (a0 :: a1 :: a2 :: vI x :: l) (st) σ = run 148 537 (a0 :: a1 :: a2 :: vI x :: l) (vI x :: st) σ := (run_eq 148 536 _ _ σ).trans rfl
set_option maxRecDepth 20000 in
theorem e148_537 (ls st : List AV) (σ : St) : run 148 537 (ls) (st) σ = run 148 538 (ls) (vI 1 :: st) σ := (run_eq 148 537 _ _ σ).trans rfl
set_option maxRecDepth 20000 in
theorem e148_538 (ls st : List AV) (σ : St) (y x : Int) : run 148 538 (ls) (vI y :: vI x :: st) σ = run 148 539 (ls) (vI (wr (x + y)) :: st) σ := (run_eq 148 538 _ _ σ).trans rfl
set_option maxRecDepth 20000 in
theorem e148_539 (ls st : List AV) (σ : St) (j : Int) (x : Nat) (h : 0 ≤ j ∧ j < (sl σ : Int)) : run 148 539 (ls) (vI j :: vS x :: st) σ = run 148 540 (ls) (vI (sx σ j.toNat) :: st) σ := (run_eq 148 539 _ _ σ).trans (if_pos h)
set_option maxRecDepth 20000 in
theorem e148_540 (ls st : List AV) (σ : St) (x0 : Nat) (x1 : Int) (h4 : st.length ≤ 4) (h : fok σ x0 2) : run 148 540 ls (vI x1 :: vR x0 :: st) σ = bnd (run 46 0 [vR x0, vI x1] [] σ) (fun r σ => run 148 543 ls (psh r st) σ) := (run_eq 148 540 _ _ σ).trans (if_pos ⟨rfl, by simp, by simpa using h4, rfl, h⟩)
set_option maxRecDepth 20000 in
theorem e148_543 (a0 a1 : AV) (l st : List AV) (σ : St) (x : Nat) : run 148 543 (a0 :: a1 :: vR x :: l) (st) σ = run 148 544 (a0 :: a1 :: vR x :: l) (vR x :: st) σ := (run_eq 148 543 _ _ σ).trans rfl
set_option maxRecDepth 20000 in
theorem e148_544 (l st : List AV) (σ : St) (x : Nat) : run 148 544 (vS x :: l) (st) σ = run 148 545 (vS x :: l) (vS x :: st) σ := (run_eq 148 544 _ _ σ).trans rfl
set_option maxRecDepth 20000 in
theorem e148_545 (a0 a1 a2 : AV) (l st : List AV) (σ : St) (x : Int) : run 148 545 (a0 :: a1 :: a2 :: vI x :: l) (st) σ = run 148 546 (a0 :: a1 :: a2 :: vI x :: l) (vI x :: st) σ := (run_eq 148 545 _ _ σ).trans rfl
set_option maxRecDepth 20000 in
theorem e148_546 (ls st : List AV) (σ : St) : run 148 546 (ls) (st) σ = run 148 547 (ls) (vI 1 :: st) σ := (run_eq 148 546 _ _ σ).trans rfl
set_option maxRecDepth 20000 in
theorem e148_547 (ls st : List AV) (σ : St) (y x : Int) : run 148 547 (ls) (vI y :: vI x :: st) σ = run 148 548 (ls) (vI (wr (x + y)) :: st) σ := (run_eq 148 547 _ _ σ).trans rfl
set_option maxRecDepth 20000 in
theorem e148_548 (ls st : List AV) (σ : St) (j : Int) (x : Nat) (h : 0 ≤ j ∧ j < (sl σ : Int)) : run 148 548 (ls) (vI j :: vS x :: st) σ = run 148 549 (ls) (vI (sx σ j.toNat) :: st) σ := (run_eq 148 548 _ _ σ).trans (if_pos h)
set_option maxRecDepth 20000 in
theorem e148_549 (ls st : List AV) (σ : St) (x0 : Nat) (x1 : Int) (h4 : st.length ≤ 4) (h : fok σ x0 3) : run 148 549 ls (vI x1 :: vR x0 :: st) σ = bnd (run 120 0 [vR x0, vI x1] [] σ) (fun r σ => run 148 552 ls (psh r st) σ) := (run_eq 148 549 _ _ σ).trans (if_pos ⟨rfl, by simp, by simpa using h4, rfl, h⟩)
set_option maxRecDepth 20000 in
theorem e148_552 (ls st : List AV) (σ : St) (y x : Int) : run 148 552 (ls) (vI y :: vI x :: st) σ = if x = y then run 148 1016 (ls) (st) σ else run 148 555 (ls) (st) σ := (run_eq 148 552 _ _ σ).trans rfl
set_option maxRecDepth 20000 in
theorem e148_555 (ls st : List AV) (σ : St) : run 148 555 (ls) (st) σ = run 148 556 (ls) (vI 0 :: st) σ := (run_eq 148 555 _ _ σ).trans rfl
set_option maxRecDepth 20000 in
theorem e148_556 (ls : List AV) (σ : St) (x : Int) (h : x = 0 ∨ x = 1) : run 148 556 ls [vI x] σ = some (vI x, σ) := (run_eq 148 556 _ _ σ).trans (if_pos h)
set_option maxRecDepth 20000 in
theorem e148_557 (a0 : AV) (l st : List AV) (σ : St) (x : Nat) : run 148 557 (a0 :: vR x :: l) (st) σ = run 148 558 (a0 :: vR x :: l) (vR x :: st) σ := (run_eq 148 557 _ _ σ).trans rfl
set_option maxRecDepth 20000 in
theorem e148_558 (l st : List AV) (σ : St) (x : Nat) : run 148 558 (vS x :: l) (st) σ = run 148 559 (vS x :: l) (vS x :: st) σ := (run_eq 148 558 _ _ σ).trans rfl
set_option maxRecDepth 20000 in
theorem e148_559 (a0 a1 a2 : AV) (l st : List AV) (σ : St) (x : Int) : run 148 559 (a0 :: a1 :: a2 :: vI x :: l) (st) σ = run 148 560 (a0 :: a1 :: a2 :: vI x :: l) (vI x :: st) σ := (run_eq 148 559 _ _ σ).trans rfl
set_option maxRecDepth 20000 in
theorem e148_560 (ls st : List AV) (σ : St) : run 148 560 (ls) (st) σ = run 148 561 (ls) (vI 1 :: st) σ := (run_eq 148 560 _ _ σ).trans rfl
set_option maxRecDepth 20000 in
theorem e148_561 (ls st : List AV) (σ : St) (y x : Int) : run 148 561 (ls) (vI y :: vI x :: st) σ = run 148 562 (ls) (vI (wr (x + y)) :: st) σ := (run_eq 148 561 _ _ σ).trans rfl
set_option maxRecDepth 20000 in
theorem e148_562 (ls st : List AV) (σ : St) (j : Int) (x : Nat) (h : 0 ≤ j ∧ j < (sl σ : Int)) : run 148 562 (ls) (vI j :: vS x :: st) σ = run 148 563 (ls) (vI (sx σ j.toNat) :: st) σ := (run_eq 148 562 _ _ σ).trans (if_pos h)
set_option maxRecDepth 20000 in
theorem e148_563 (l st : List AV) (σ : St) (x : Nat) : run 148 563 (vS x :: l) (st) σ = run 148 564 (vS x :: l) (vS x :: st) σ := (run_eq 148 563 _ _ σ).trans rfl
set_option maxRecDepth 20000 in
theorem e148_564 (a0 a1 a2 : AV) (l st : List AV) (σ : St) (x : Int) : run 148 564 (a0 :: a1 :: a2 :: vI x :: l) (st) σ = run 148 565 (a0 :: a1 :: a2 :: vI x :: l) (vI x :: st) σ := (run_eq 148 564 _ _ σ).trans rfl
set_option maxRecDepth 20000 in
theorem e148_565 (ls st : List AV) (σ : St) : run 148 565 (ls) (st) σ = run 148 566 (ls) (vI 2 :: st) σ := (run_eq 148 565 _ _ σ).trans rfl
set_option maxRecDepth 20000 in
theorem e148_566 (ls st : List AV) (σ : St) (y x : Int) : run 148 566 (ls) (vI y :: vI x :: st) σ = run 148 567 (ls) (vI (wr (x + y)) :: st) σ := (run_eq 148 566 _ _ σ).trans rfl
set_option maxRecDepth 20000 in
theorem e148_567 (ls st : List AV) (σ : St) (j : Int) (x : Nat) (h : 0 ≤ j ∧ j < (sl σ : Int)) : run 148 567 (ls) (vI j :: vS x :: st) σ = run 148 568 (ls) (vI (sx σ j.toNat) :: st) σ := (run_eq 148 567 _ _ σ).trans (if_pos h)
set_option maxRecDepth 20000 in
theorem e148_568 (ls st : List AV) (σ : St) (x0 : Nat) (x1 : Int) (x2 : Int) (h4 : st.length ≤ 4) (h : fok σ x0 2) : run 148 568 ls (vI x2 :: vI x1 :: vR x0 :: st) σ = bnd (run 47 0 [vR x0, vI x1, vI x2] [] σ) (fun r σ => run 148 571 ls (psh r st) σ) := (run_eq 148 568 _ _ σ).trans (if_pos ⟨rfl, by simp, by simpa using h4, rfl, h⟩)
set_option maxRecDepth 20000 in
theorem e148_571 (a0 a1 : AV) (l st : List AV) (σ : St) (x : Nat) : run 148 571 (a0 :: a1 :: vR x :: l) (st) σ = run 148 572 (a0 :: a1 :: vR x :: l) (vR x :: st) σ := (run_eq 148 571 _ _ σ).trans rfl
set_option maxRecDepth 20000 in
theorem e148_572 (l st : List AV) (σ : St) (x : Nat) : run 148 572 (vS x :: l) (st) σ = run 148 573 (vS x :: l) (vS x :: st) σ := (run_eq 148 572 _ _ σ).trans rfl
set_option maxRecDepth 20000 in
theorem e148_573 (a0 a1 a2 : AV) (l st : List AV) (σ : St) (x : Int) : run 148 573 (a0 :: a1 :: a2 :: vI x :: l) (st) σ = run 148 574 (a0 :: a1 :: a2 :: vI x :: l) (vI x :: st) σ := (run_eq 148 573 _ _ σ).trans rfl
set_option maxRecDepth 20000 in
theorem e148_574 (ls st : List AV) (σ : St) : run 148 574 (ls) (st) σ = run 148 575 (ls) (vI 1 :: st) σ := (run_eq 148 574 _ _ σ).trans rfl
set_option maxRecDepth 20000 in
theorem e148_575 (ls st : List AV) (σ : St) (y x : Int) : run 148 575 (ls) (vI y :: vI x :: st) σ = run 148 576 (ls) (vI (wr (x + y)) :: st) σ := (run_eq 148 575 _ _ σ).trans rfl
set_option maxRecDepth 20000 in
theorem e148_576 (ls st : List AV) (σ : St) (j : Int) (x : Nat) (h : 0 ≤ j ∧ j < (sl σ : Int)) : run 148 576 (ls) (vI j :: vS x :: st) σ = run 148 577 (ls) (vI (sx σ j.toNat) :: st) σ := (run_eq 148 576 _ _ σ).trans (if_pos h)
set_option maxRecDepth 20000 in
theorem e148_577 (l st : List AV) (σ : St) (x : Nat) : run 148 577 (vS x :: l) (st) σ = run 148 578 (vS x :: l) (vS x :: st) σ := (run_eq 148 577 _ _ σ).trans rfl
set_option maxRecDepth 20000 in
theorem e148_578 (a0 a1 a2 : AV) (l st : List AV) (σ : St) (x : Int) : run 148 578 (a0 :: a1 :: a2 :: vI x :: l) (st) σ = run 148 579 (a0 :: a1 :: a2 :: vI x :: l) (vI x :: st) σ := (run_eq 148 578 _ _ σ).trans rfl
set_option maxRecDepth 20000 in
theorem e148_579 (ls st : List AV) (σ : St) : run 148 579 (ls) (st) σ = run 148 580 (ls) (vI 2 :: st) σ := (run_eq 148 579 _ _ σ).trans rfl
set_option maxRecDepth 20000 in
theorem e148_580 (ls st : List AV) (σ : St) (y x : Int) : run 148 580 (ls) (vI y :: vI x :: st) σ = run 148 581 (ls) (vI (wr (x + y)) :: st) σ := (run_eq 148 580 _ _ σ).trans rfl
set_option maxRecDepth 20000 in
theorem e148_581 (ls st : List AV) (σ : St) (j : Int) (x : Nat) (h : 0 ≤ j ∧ j < (sl σ : Int)) : run 148 581 (ls) (vI j :: vS x :: st) σ = run 148 582 (ls) (vI (sx σ j.toNat) :: st) σ := (run_eq 148 581 _ _ σ).trans (if_pos h)
set_option maxRecDepth 20000 in
theorem e148_582 (ls st : List AV) (σ : St) (x0 : Nat) (x1 : Int) (x2 : Int) (h4 : st.length ≤ 4) (h : fok σ x0 3) : run 148 582 ls (vI x2 :: vI x1 :: vR x0 :: st) σ = bnd (run 122 0 [vR x0, vI x1, vI x2, vU, vU, vU, vU, vU, vU, vU, vU] [] σ) (fun r σ => run 148 585 ls (psh r st) σ) := (run_eq 148 582 _ _ σ).trans (if_pos ⟨rfl, by simp, by simpa using h4, rfl, h⟩)
set_option maxRecDepth 20000 in
theorem e148_585 (ls st : List AV) (σ : St) (y x : Int) : run 148 585 (ls) (vI y :: vI x :: st) σ = if x = y then run 148 1016 (ls) (st) σ else run 148 588 (ls) (st) σ := (run_eq 148 585 _ _ σ).trans rfl
set_option maxRecDepth 20000 in
theorem e148_588 (ls st : List AV) (σ : St) : run 148 588 (ls) (st) σ = run 148 589 (ls) (vI 0 :: st) σ := (run_eq 148 588 _ _ σ).trans rfl
set_option maxRecDepth 20000 in
theorem e148_589 (ls : List AV) (σ : St) (x : Int) (h : x = 0 ∨ x = 1) : run 148 589 ls [vI x] σ = some (vI x, σ) := (run_eq 148 589 _ _ σ).trans (if_pos h)
set_option maxRecDepth 20000 in
theorem e148_590 (a0 : AV) (l st : List AV) (σ : St) (x : Nat) : run 148 590 (a0 :: vR x :: l) (st) σ = run 148 591 (a0 :: vR x :: l) (vR x :: st) σ := (run_eq 148 590 _ _ σ).trans rfl
set_option maxRecDepth 20000 in
theorem e148_591 (l st : List AV) (σ : St) (x : Nat) : run 148 591 (vS x :: l) (st) σ = run 148 592 (vS x :: l) (vS x :: st) σ := (run_eq 148 591 _ _ σ).trans rfl
set_option maxRecDepth 20000 in
theorem e148_592 (a0 a1 a2 : AV) (l st : List AV) (σ : St) (x : Int) : run 148 592 (a0 :: a1 :: a2 :: vI x :: l) (st) σ = run 148 593 (a0 :: a1 :: a2 :: vI x :: l) (vI x :: st) σ := (run_eq 148 592 _ _ σ).trans rfl
set_option maxRecDepth 20000 in
theorem e148_593 (ls st : List AV) (σ : St) : run 148 593 (ls) (st) σ = run 148 594 (ls) (vI 1 :: st) σ := (run_eq 148 593 _ _ σ).trans rfl
set_option maxRecDepth 20000 in
theorem e148_594 (ls st : List AV) (σ : St) (y x : Int) : run 148 594 (ls) (vI y :: vI x :: st) σ = run 148 595 (ls) (vI (wr (x + y)) :: st) σ := (run_eq 148 594 _ _ σ).trans rfl
set_option maxRecDepth 20000 in
theorem e148_595 (ls st : List AV) (σ : St) (j : Int) (x : Nat) (h : 0 ≤ j ∧ j < (sl σ : Int)) : run 148 595 (ls) (vI j :: vS x :: st) σ = run 148 596 (ls) (vI (sx σ j.toNat) :: st) σ := (run_eq 148 595 _ _ σ).trans (if_pos h)
set_option maxRecDepth 20000 in
theorem e148_596 (l st : List AV) (σ : St) (x : Nat) : run 148 596 (vS x :: l) (st) σ = run 148 597 (vS x :: l) (vS x :: st) σ := (run_eq 148 596 _ _ σ).trans rfl
set_option maxRecDepth 20000 in
theorem e148_597 (a0 a1 a2 : AV) (l st : List AV) (σ : St) (x : Int) : run 148 597 (a0 :: a1 :: a2 :: vI x :: l) (st) σ = run 148 598 (a0 :: a1 :: a2 :: vI x :: l) (vI x :: st) σ := (run_eq 148 597 _ _ σ).trans rfl
set_option maxRecDepth 20000 in
theorem e148_598 (ls st : List AV) (σ : St) : run 148 598 (ls) (st) σ = run 148 599 (ls) (vI 2 :: st) σ := (run_eq 148 598 _ _ σ).trans rfl
set_option maxRecDepth 20000 in
theorem e148_599 (ls st : List AV) (σ : St) (y x : Int) : run 148 599 (ls) (vI y :: vI x :: st) σ = run 148 600 (ls) (vI (wr (x + y)) :: st) σ := (run_eq 148 599 _ _ σ).trans rfl
set_option maxRecDepth 20000 in
theorem e148_600 (ls st : List AV) (σ : St) (j : Int) (x : Nat) (h : 0 ≤ j ∧ j < (sl σ : Int)) : run 148 600 (ls) (vI j :: vS x :: st) σ = run 148 601 (ls) (vI (sx σ j.toNat) :: st) σ := (run_eq 148 600 _ _ σ).trans (if_pos h)
set_option maxRecDepth 20000 in
theorem e148_601 (ls st : List AV) (σ : St) (x0 : Nat) (x1 : Int) (x2 : Int) (h4 : st.length ≤ 4) (h : fok σ x0 2) : run 148 601 ls (vI x2 :: vI x1 :: vR x0 :: st) σ = bnd (run 55 0 [vR x0, vI x1, vI x2] [] σ) (fun r σ => run 148 604 ls (psh r st) σ) := (run_eq 148 601 _ _ σ).trans (if_pos ⟨rfl, by simp, by simpa using h4, rfl, h⟩)
set_option maxRecDepth 20000 in
theorem e148_604 (a0 a1 : AV) (l st : List AV) (σ : St) (x : Nat) : run 148 604 (a0 :: a1 :: vR x :: l) (st) σ = run 148 605 (a0 :: a1 :: vR x :: l) (vR x :: st) σ := (run_eq 148 604 _ _ σ).trans rfl
set_option maxRecDepth 20000 in
theorem e148_605 (l st : List AV) (σ : St) (x : Nat) : run 148 605 (vS x :: l) (st) σ = run 148 606 (vS x :: l) (vS x :: st) σ := (run_eq 148 605 _ _ σ).trans rfl
set_option maxRecDepth 20000 in
theorem e148_606 (a0 a1 a2 : AV) (l st : List AV) (σ : St) (x : Int) : run 148 606 (a0 :: a1 :: a2 :: vI x :: l) (st) σ = run 148 607 (a0 :: a1 :: a2 :: vI x :: l) (vI x :: st) σ := (run_eq 148 606 _ _ σ).trans rfl
set_option maxRecDepth 20000 in
theorem e148_607 (ls st : List AV) (σ : St) : run 148 607 (ls) (st) σ = run 148 608 (ls) (vI 1 :: st) σ := (run_eq 148 607 _ _ σ).trans rfl
set_option maxRecDepth 20000 in
theorem e148_608 (ls st : List AV) (σ : St) (y x : Int) : run 148 608 (ls) (vI y :: vI x :: st) σ = run 148 609 (ls) (vI (wr (x + y)) :: st) σ := (run_eq 148 608 _ _ σ).trans rfl
set_option maxRecDepth 20000 in
theorem e148_609 (ls st : List AV) (σ : St) (j : Int) (x : Nat) (h : 0 ≤ j ∧ j < (sl σ : Int)) : run 148 609 (ls) (vI j :: vS x :: st) σ = run 148 610 (ls) (vI (sx σ j.toNat) :: st) σ := (run_eq 148 609 _ _ σ).trans (if_pos h)
set_option maxRecDepth 20000 in
theorem e148_610 (l st : List AV) (σ : St) (x : Nat) : run 148 610 (vS x :: l) (st) σ = run 148 611 (vS x :: l) (vS x :: st) σ := (run_eq 148 610 _ _ σ).trans rfl
set_option maxRecDepth 20000 in
theorem e148_611 (a0 a1 a2 : AV) (l st : List AV) (σ : St) (x : Int) : run 148 611 (a0 :: a1 :: a2 :: vI x :: l) (st) σ = run 148 612 (a0 :: a1 :: a2 :: vI x :: l) (vI x :: st) σ := (run_eq 148 611 _ _ σ).trans rfl
set_option maxRecDepth 20000 in
theorem e148_612 (ls st : List AV) (σ : St) : run 148 612 (ls) (st) σ = run 148 613 (ls) (vI 2 :: st) σ := (run_eq 148 612 _ _ σ).trans rfl
set_option maxRecDepth 20000 in
theorem e148_613 (ls st : List AV) (σ : St) (y x : Int) : run 148 613 (ls) (vI y :: vI x :: st) σ = run 148 614 (ls) (vI (wr (x + y)) :: st) σ := (run_eq 148 613 _ _ σ).trans rfl
set_option maxRecDepth 20000 in
theorem e148_614 (ls st : List AV) (σ : St) (j : Int) (x : Nat) (h : 0 ≤ j ∧ j < (sl σ : Int)) : run 148 614 (ls) (vI j :: vS x :: st) σ = run 148 615 (ls) (vI (sx σ j.toNat) :: st) σ := (run_eq 148 614 _ _ σ).trans (if_pos h)
set_option maxRecDepth 20000 in
theorem e148_615 (ls st : List AV) (σ : St) (x0 : Nat) (x1 : Int) (x2 : Int) (h4 : st.length ≤ 4) (h : fok σ x0 3) : run 148 615 ls (vI x2 :: vI x1 :: vR x0 :: st) σ = bnd (run 125 0 [vR x0, vI x1, vI x2, vU, vU, vU, vU, vU, vU] [] σ) (fun r σ => run 148 618 ls (psh r st) σ) := (run_eq 148 615 _ _ σ).trans (if_pos ⟨rfl, by simp, by simpa using h4, rfl, h⟩)
set_option maxRecDepth 20000 in
theorem e148_618 (ls st : List AV) (σ : St) (y x : Int) : run 148 618 (ls) (vI y :: vI x :: st) σ = if x = y then run 148 1016 (ls) (st) σ else run 148 621 (ls) (st) σ := (run_eq 148 618 _ _ σ).trans rfl
set_option maxRecDepth 20000 in
theorem e148_621 (ls st : List AV) (σ : St) : run 148 621 (ls) (st) σ = run 148 622 (ls) (vI 0 :: st) σ := (run_eq 148 621 _ _ σ).trans rfl
set_option maxRecDepth 20000 in
theorem e148_622 (ls : List AV) (σ : St) (x : Int) (h : x = 0 ∨ x = 1) : run 148 622 ls [vI x] σ = some (vI x, σ) := (run_eq 148 622 _ _ σ).trans (if_pos h)
set_option maxRecDepth 20000 in
theorem e148_623 (a0 : AV) (l st : List AV) (σ : St) (x : Nat) : run 148 623 (a0 :: vR x :: l) (st) σ = run 148 624 (a0 :: vR x :: l) (vR x :: st) σ := (run_eq 148 623 _ _ σ).trans rfl
set_option maxRecDepth 20000 in
theorem e148_624 (l st : List AV) (σ : St) (x : Nat) : run 148 624 (vS x :: l) (st) σ = run 148 625 (vS x :: l) (vS x :: st) σ := (run_eq 148 624 _ _ σ).trans rfl
set_option maxRecDepth 20000 in
theorem e148_625 (a0 a1 a2 : AV) (l st : List AV) (σ : St) (x : Int) : run 148 625 (a0 :: a1 :: a2 :: vI x :: l) (st) σ = run 148 626 (a0 :: a1 :: a2 :: vI x :: l) (vI x :: st) σ := (run_eq 148 625 _ _ σ).trans rfl
set_option maxRecDepth 20000 in
theorem e148_626 (ls st : List AV) (σ : St) : run 148 626 (ls) (st) σ = run 148 627 (ls) (vI 1 :: st) σ := (run_eq 148 626 _ _ σ).trans rfl
set_option maxRecDepth 20000 in
theorem e148_627 (ls st : List AV) (σ : St) (y x : Int) : run 148 627 (ls) (vI y :: vI x :: st) σ = run 148 628 (ls) (vI (wr (x + y)) :: st) σ := (run_eq 148 627 _ _ σ).trans rfl
set_option maxRecDepth 20000 in
theorem e148_628 (ls st : List AV) (σ : St) (j : Int) (x : Nat) (h : 0 ≤ j ∧ j < (sl σ : Int)) : run 148 628 (ls) (vI j :: vS x :: st) σ = run 148 629 (ls) (vI (sx σ j.toNat) :: st) σ := (run_eq 148 628 _ _ σ).trans (if_pos h)
set_option maxRecDepth 20000 in
theorem e148_629 (l st : List AV) (σ : St) (x : Nat) : run 148 629 (vS x :: l) (st) σ = run 148 630 (vS x :: l) (vS x :: st) σ := (run_eq 148 629 _ _ σ).trans rfl
set_option maxRecDepth 20000 in
theorem e148_630 (a0 a1 a2 : AV) (l st : List AV) (σ : St) (x : Int) : run 148 630 (a0 :: a1 :: a2 :: vI x :: l) (st) σ = run 148 631 (a0 :: a1 :: a2 :: vI x :: l) (vI x :: st) σ := (run_eq 148 630 _ _ σ).trans rfl
set_option maxRecDepth 20000 in
theorem e148_631 (ls st : List AV) (σ : St) : run 148 631 (ls) (st) σ = run 148 632 (ls) (vI 2 :: st) σ := (run_eq 148 631 _ _ σ).trans rfl
set_option maxRecDepth 20000 in
theorem e148_632 (ls st : List AV) (σ : St) (y x : Int) : run 148 632 (ls) (vI y :: vI x :: st) σ = run 148 633 (ls) (vI (wr (x + y)) :: st) σ := (run_eq 148 632 _ _ σ).trans rfl
set_option maxRecDepth 20000 in
theorem e148_633 (ls st : List AV) (σ : St) (j : Int) (x : Nat) (h : 0 ≤ j ∧ j < (sl σ : Int)) : run 148 633 (ls) (vI j :: vS x :: st) σ = run 148 634 (ls) (vI (sx σ j.toNat) :: st) σ := (run_eq 148 633 _ _ σ).trans (if_pos h)
set_option maxRecDepth 20000 in
theorem e148_634 (ls st : List AV) (σ : St) (x0 : Nat) (x1 : Int) (x2 : Int) (h4 : st.length ≤ 4) (h : fok σ x0 2) : run 148 634 ls (vI x2 :: vI x1 :: vR x0 :: st) σ = bnd (run 60 0 [vR x0, vI x1, vI x2, vU, vU, vU, vU, vU] [] σ) (fun r σ => run 148 637 ls (psh r st) σ) := (run_eq 148 634 _ _ σ).trans (if_pos ⟨rfl, by simp, by simpa using h4, rfl, h⟩)
set_option maxRecDepth 20000 in
theorem e148_637 (a0 a1 : AV) (l st : List AV) (σ : St) (x : Nat) : run 148 637 (a0 :: a1 :: vR x :: l) (st) σ = run 148 638 (a0 :: a1 :: vR x :: l) (vR x :: st) σ := (run_eq 148 637 _ _ σ).trans rfl
set_option maxRecDepth 20000 in
theorem e148_638 (l st : List AV) (σ : St) (x : Nat) : run 148 638 (vS x :: l) (st) σ = run 148 639 (vS x :: l) (vS x :: st) σ := (run_eq 148 638 _ _ σ).trans rfl
set_option maxRecDepth 20000 in
theorem e148_639 (a0 a1 a2 : AV) (l st : List AV) (σ : St) (x : Int) : run 148 639 (a0 :: a1 :: a2 :: vI x :: l) (st) σ = run 148 640 (a0 :: a1 :: a2 :: vI x :: l) (vI x :: st) σ := (run_eq 148 639 _ _ σ).trans rfl
set_option maxRecDepth 20000 in
theorem e148_640 (ls st : List AV) (σ : St) : run 148 640 (ls) (st) σ = run 148 641 (ls) (vI 1 :: st) σ := (run_eq 148 640 _ _ σ).trans rfl
set_option maxRecDepth 20000 in
theorem e148_641 (ls st : List AV) (σ : St) (y x : Int) : run 148 641 (ls) (vI y :: vI x :: st) σ = run 148 642 (ls) (vI (wr (x + y)) :: st) σ := (run_eq 148 641 _ _ σ).trans rfl
set_option maxRecDepth 20000 in
theorem e148_642 (ls st : List AV) (σ : St) (j : Int) (x : Nat) (h : 0 ≤ j ∧ j < (sl σ : Int)) : run 148 642 (ls) (vI j :: vS x :: st) σ = run 148 643 (ls) (vI (sx σ j.toNat) :: st) σ := (run_eq 148 642 _ _ σ).trans (if_pos h)
set_option maxRecDepth 20000 in
theorem e148_643 (l st : List AV) (σ : St) (x : Nat) : run 148 643 (vS x :: l) (st) σ = run 148 644 (vS x :: l) (vS x :: st) σ := (run_eq 148 643 _ _ σ).trans rfl
set_option maxRecDepth 20000 in
theorem e148_644 (a0 a1 a2 : AV) (l st : List AV) (σ : St) (x : Int) : run 148 644 (a0 :: a1 :: a2 :: vI x :: l) (st) σ = run 148 645 (a0 :: a1 :: a2 :: vI x :: l) (vI x :: st) σ := (run_eq 148 644 _ _ σ).trans rfl
set_option maxRecDepth 20000 in
theorem e148_645 (ls st : List AV) (σ : St) : run 148 645 (ls) (st) σ = run 148 646 (ls) (vI 2 :: st) σ := (run_eq 148 645 _ _ σ).trans rfl
set_option maxRecDepth 20000 in
theorem e148_646 (ls st : List AV) (σ : St) (y x : Int) : run 148 646 (ls) (vI y :: vI x :: st) σ = run 148 647 (ls) (vI (wr (x + y)) :: st) σ := (run_eq 148 646 _ _ σ).trans rfl
set_option maxRecDepth 20000 in
theorem e148_647 (ls st : List AV) (σ : St) (j : Int) (x : Nat) (h : 0 ≤ j ∧ j < (sl σ : Int)) : run 148 647 (ls) (vI j :: vS x :: st) σ = run 148 648 (ls) (vI (sx σ j.toNat) :: st) σ := (run_eq 148 647 _ _ σ).trans (if_pos h)
set_option maxRecDepth 20000 in
theorem e148_648 (ls st : List AV) (σ : St) (x0 : Nat) (x1 : Int) (x2 : Int) (h4 : st.length ≤ 4) (h : fok σ x0 3) : run 148 648 ls (vI x2 :: vI x1 :: vR x0 :: st) σ = bnd (run 126 0 [vR x0, vI x1, vI x2, vU, vU, vU, vU, vU] [] σ) (fun r σ => run 148 651 ls (psh r st) σ) := (run_eq 148 648 _ _ σ).trans (if_pos ⟨rfl, by simp, by simpa using h4, rfl, h⟩)
set_option maxRecDepth 20000 in
theorem e148_651 (ls st : List AV) (σ : St) (y x : Int) : run 148 651 (ls) (vI y :: vI x :: st) σ = if x = y then run 148 1016 (ls) (st) σ else run 148 654 (ls) (st) σ := (run_eq 148 651 _ _ σ).trans rfl
set_option maxRecDepth 20000 in
theorem e148_654 (ls st : List AV) (σ : St) : run 148 654 (ls) (st) σ = run 148 655 (ls) (vI 0 :: st) σ := (run_eq 148 654 _ _ σ).trans rfl
set_option maxRecDepth 20000 in
theorem e148_655 (ls : List AV) (σ : St) (x : Int) (h : x = 0 ∨ x = 1) : run 148 655 ls [vI x] σ = some (vI x, σ) := (run_eq 148 655 _ _ σ).trans (if_pos h)
set_option maxRecDepth 20000 in
theorem e148_656 (a0 : AV) (l st : List AV) (σ : St) (x : Nat) : run 148 656 (a0 :: vR x :: l) (st) σ = run 148 657 (a0 :: vR x :: l) (vR x :: st) σ := (run_eq 148 656 _ _ σ).trans rfl
set_option maxRecDepth 20000 in
theorem e148_657 (l st : List AV) (σ : St) (x : Nat) : run 148 657 (vS x :: l) (st) σ = run 148 658 (vS x :: l) (vS x :: st) σ := (run_eq 148 657 _ _ σ).trans rfl
set_option maxRecDepth 20000 in
theorem e148_658 (a0 a1 a2 : AV) (l st : List AV) (σ : St) (x : Int) : run 148 658 (a0 :: a1 :: a2 :: vI x :: l) (st) σ = run 148 659 (a0 :: a1 :: a2 :: vI x :: l) (vI x :: st) σ := (run_eq 148 658 _ _ σ).trans rfl
set_option maxRecDepth 20000 in
theorem e148_659 (ls st : List AV) (σ : St) : run 148 659 (ls) (st) σ = run 148 660 (ls) (vI 1 :: st) σ := (run_eq 148 659 _ _ σ).trans rfl
set_option maxRecDepth 20000 in
theorem e148_660 (ls st : List AV) (σ : St) (y x : Int) : run 148 660 (ls) (vI y :: vI x :: st) σ = run 148 661 (ls) (vI (wr (x + y)) :: st) σ := (run_eq 148 660 _ _ σ).trans rfl
set_option maxRecDepth 20000 in
theorem e148_661 (ls st : List AV) (σ : St) (j : Int) (x : Nat) (h : 0 ≤ j ∧ j < (sl σ : Int)) : run 148 661 (ls) (vI j :: vS x :: st) σ = run 148 662 (ls) (vI (sx σ j.toNat) :: st) σ := (run_eq 148 661 _ _ σ).trans (if_pos h)
set_option maxRecDepth 20000 in
theorem e148_662 (ls st : List AV) (σ : St) (x0 : Nat) (x1 : Int) (h4 : st.length ≤ 4) (h : fok σ x0 2) : run 148 662 ls (vI x1 :: vR x0 :: st) σ = bnd (run 61 0 [vR x0, vI x1, vU, vU, vU] [] σ) (fun r σ => run 148 665 ls (psh r st) σ) := (run_eq 148 662 _ _ σ).trans (if_pos ⟨rfl, by simp, by simpa using h4, rfl, h⟩)
set_option maxRecDepth 20000 in
theorem e148_665 (a0 a1 : AV) (l st : List AV) (σ : St) (x : Nat) : run 148 665 (a0 :: a1 :: vR x :: l) (st) σ = run 148 666 (a0 :: a1 :: vR x :: l) (vR x :: st) σ := (run_eq 148 665 _ _ σ).trans rfl
set_option maxRecDepth 20000 in
theorem e148_666 (l st : List AV) (σ : St) (x : Nat) : run 148 666 (vS x :: l) (st) σ = run 148 667 (vS x :: l) (vS x :: st) σ := (run_eq 148 666 _ _ σ).trans rfl
set_option maxRecDepth 20000 in
theorem e148_667 (a0 a1 a2 : AV) (l st : List AV) (σ : St) (x : Int) : run 148 667 (a0 :: a1 :: a2 :: vI x :: l) (st) σ = run 148 668 (a0 :: a1 :: a2 :: vI x :: l) (vI x :: st) σ := (run_eq 148 667 _ _ σ).trans rfl
set_option maxRecDepth 20000 in
theorem e148_668 (ls st : List AV) (σ : St) : run 148 668 (ls) (st) σ = run 148 669 (ls) (vI 1 :: st) σ := (run_eq 148 668 _ _ σ).trans rfl
set_option maxRecDepth 20000 in
theorem e148_669 (ls st : List AV) (σ : St) (y x : Int) : run 148 669 (ls) (vI y :: vI x :: st) σ = run 148 670 (ls) (vI (wr (x + y)) :: st) σ := (run_eq 148 669 _ _ σ).trans rfl
set_option maxRecDepth 20000 in
theorem e148_670 (ls st : List AV) (σ : St) (j : Int) (x : Nat) (h : 0 ≤ j ∧ j < (sl σ : Int)) : run 148 670 (ls) (vI j :: vS x :: st) σ = run 148 671 (ls) (vI (sx σ j.toNat) :: st) σ := (run_eq 148 670 _ _ σ).trans (if_pos h)
set_option maxRecDepth 20000 in
theorem e148_671 (ls st : List AV) (σ : St) (x0 : Nat) (x1 : Int) (h4 : st.length ≤ 4) (h : fok σ x0 3) : run 148 671 ls (vI x1 :: vR x0 :: st) σ = bnd (run 127 0 [vR x0, vI x1, vU, vU, vU] [] σ) (fun r σ => run 148 674 ls (psh r st) σ) := (run_eq 148 671 _ _ σ).trans (if_pos ⟨rfl, by simp, by simpa using h4, rfl, h⟩)
set_option maxRecDepth 20000 in
theorem e148_674 (ls st : List AV) (σ : St) (y x : Int) : run 148 674 (ls) (vI y :: vI x :: st) σ = if x = y then run 148 1016 (ls) (st) σ else run 148 677 (ls) (st) σ := (run_eq 148 674 _ _ σ).trans rfl
set_option maxRecDepth 20000 in
theorem e148_677 (ls st : List AV) (σ : St) : run 148 677 (ls) (st) σ = run 148 678 (ls) (vI 0 :: st) σ := (run_eq 148 677 _ _ σ).trans rfl
set_option maxRecDepth 20000 in
theorem e148_678 (ls : List AV) (σ : St) (x : Int) (h : x = 0 ∨ x = 1) : run 148 678 ls [vI x] σ = some (vI x, σ) := (run_eq 148 678 _ _ σ).trans (if_pos h)
set_option maxRecDepth 20000 in
theorem e148_679 (a0 : AV) (l st : List AV) (σ : St) (x : Nat) : run 148 679 (a0 :: vR x :: l) (st) σ = run 148 680 (a0 :: vR x :: l) (vR x :: st) σ := (run_eq 148 679 _ _ σ).trans rfl
set_option maxRecDepth 20000 in
theorem e148_680 (l st : List AV) (σ : St) (x : Nat) : run 148 680 (vS x :: l) (st) σ = run 148 681 (vS x :: l) (vS x :: st) σ := (run_eq 148 680 _ _ σ).trans rfl
set_option maxRecDepth 20000 in
theorem e148_681 (a0 a1 a2 : AV) (l st : List AV) (σ : St) (x : Int) : run 148 681 (a0 :: a1 :: a2 :: vI x :: l) (st) σ = run 148 682 (a0 :: a1 :: a2 :: vI x :: l) (vI x :: st) σ := (run_eq 148 681 _ _ σ).trans rfl
set_option maxRecDepth 20000 in
theorem e148_682 (ls st : List AV) (σ : St) : run 148 682 (ls) (st) σ = run 148 683 (ls) (vI 1 :: st) σ := (run_eq 148 682 _ _ σ).trans rfl
set_option maxRecDepth 20000 in
theorem e148_683 (ls st : List AV) (σ : St) (y x : Int) : run 148 683 (ls) (vI y :: vI x :: st) σ = run 148 684 (ls) (vI (wr (x + y)) :: st) σ := (run_eq 148 683 _ _ σ).trans rfl
set_option maxRecDepth 20000 in
theorem e148_684 (ls st : List AV) (σ : St) (j : Int) (x : Nat) (h : 0 ≤ j ∧ j < (sl σ : Int)) : run 148 684 (ls) (vI j :: vS x :: st) σ = run 148 685 (ls) (vI (sx σ j.toNat) :: st) σ := (run_eq 148 684 _ _ σ).trans (if_pos h)
set_option maxRecDepth 20000 in
theorem e148_685 (l st : List AV) (σ : St) (x : Nat) : run 148 685 (vS x :: l) (st) σ = run 148 686 (vS x :: l) (vS x :: st) σ := (run_eq 148 685 _ _ σ).trans rfl
set_option maxRecDepth 20000 in
theorem e148_686 (a0 a1 a2 : AV) (l st : List AV) (σ : St) (x : Int) : run 148 686 (a0 :: a1 :: a2 :: vI x :: l) (st) σ = run 148 687 (a0 :: a1 :: a2 :: vI x :: l) (vI x :: st) σ := (run_eq 148 686 _ _ σ).trans rfl
set_option maxRecDepth 20000 in
theorem e148_687 (ls st : List AV) (σ : St) : run 148 687 (ls) (st) σ = run 148 688 (ls) (vI 2 :: st) σ := (run_eq 148 687 _ _ σ).trans rfl
set_option maxRecDepth 20000 in
theorem e148_688 (ls st : List AV) (σ : St) (y x : Int) : run 148 688 (ls) (vI y :: vI x :: st) σ = run 148 689 (ls) (vI (wr (x + y)) :: st) σ := (run_eq 148 688 _ _ σ).trans rfl
set_option maxRecDepth 20000 in
theorem e148_689 (ls st : List AV) (σ : St) (j : Int) (x : Nat) (h : 0 ≤ j ∧ j < (sl σ : Int)) : run 148 689 (ls) (vI j :: vS x :: st) σ = run 148 690 (ls) (vI (sx σ j.toNat) :: st) σ := (run_eq 148 689 _ _ σ).trans (if_pos h)
set_option maxRecDepth 20000 in
theorem e148_690 (l st : List AV) (σ : St) (x : Nat) : run 148 690 (vS x :: l) (st) σ = run 148 691 (vS x :: l) (vS x :: st) σ := (run_eq 148 690 _ _ σ).trans rfl
set_option maxRecDepth 20000 in
theorem e148_691 (a0 a1 a2 : AV) (l st : List AV) (σ : St) (x : Int) : run 148 691 (a0 :: a1 :: a2 :: vI x :: l) (st) σ = run 148 692 (a0 :: a1 :: a2 :: vI x :: l) (vI x :: st) σ := (run_eq 148 691 _ _ σ).trans rfl
set_option maxRecDepth 20000 in
theorem e148_692 (ls st : List AV) (σ : St) : run 148 692 (ls) (st) σ = run 148 693 (ls) (vI 3 :: st) σ := (run_eq 148 692 _ _ σ).trans rfl
set_option maxRecDepth 20000 in
theorem e148_693 (ls st : List AV) (σ : St) (y x : Int) : run 148 693 (ls) (vI y :: vI x :: st) σ = run 148 694 (ls) (vI (wr (x + y)) :: st) σ := (run_eq 148 693 _ _ σ).trans rfl
set_option maxRecDepth 20000 in
theorem e148_694 (ls st : List AV) (σ : St) (j : Int) (x : Nat) (h : 0 ≤ j ∧ j < (sl σ : Int)) : run 148 694 (ls) (vI j :: vS x :: st) σ = run 148 695 (ls) (vI (sx σ j.toNat) :: st) σ := (run_eq 148 694 _ _ σ).trans (if_pos h)
set_option maxRecDepth 20000 in
theorem e148_695 (ls st : List AV) (σ : St) (x0 : Nat) (x1 : Int) (x2 : Int) (x3 : Int) (h4 : st.length ≤ 4) (h : fok σ x0 2) : run 148 695 ls (vI x3 :: vI x2 :: vI x1 :: vR x0 :: st) σ = bnd (run 63 0 [vR x0, vI x1, vI x2, vI x3, vU] [] σ) (fun r σ => run 148 698 ls (psh r st) σ) := (run_eq 148 695 _ _ σ).trans (if_pos ⟨rfl, by simp, by simpa using h4, rfl, h⟩)
set_option maxRecDepth 20000 in
theorem e148_698 (a0 a1 : AV) (l st : List AV) (σ : St) (x : Nat) : run 148 698 (a0 :: a1 :: vR x :: l) (st) σ = run 148 699 (a0 :: a1 :: vR x :: l) (vR x :: st) σ := (run_eq 148 698 _ _ σ).trans rfl
set_option maxRecDepth 20000 in
theorem e148_699 (l st : List AV) (σ : St) (x : Nat) : run 148 699 (vS x :: l) (st) σ = run 148 700 (vS x :: l) (vS x :: st) σ := (run_eq 148 699 _ _ σ).trans rfl
set_option maxRecDepth 20000 in
theorem e148_700 (a0 a1 a2 : AV) (l st : List AV) (σ : St) (x : Int) : run 148 700 (a0 :: a1 :: a2 :: vI x :: l) (st) σ = run 148 701 (a0 :: a1 :: a2 :: vI x :: l) (vI x :: st) σ := (run_eq 148 700 _ _ σ).trans rfl
set_option maxRecDepth 20000 in
theorem e148_701 (ls st : List AV) (σ : St) : run 148 701 (ls) (st) σ = run 148 702 (ls) (vI 1 :: st) σ := (run_eq 148 701 _ _ σ).trans rfl
set_option maxRecDepth 20000 in
theorem e148_702 (ls st : List AV) (σ : St) (y x : Int) : run 148 702 (ls) (vI y :: vI x :: st) σ = run 148 703 (ls) (vI (wr (x + y)) :: st) σ := (run_eq 148 702 _ _ σ).trans rfl
set_option maxRecDepth 20000 in
theorem e148_703 (ls st : List AV) (σ : St) (j : Int) (x : Nat) (h : 0 ≤ j ∧ j < (sl σ : Int)) : run 148 703 (ls) (vI j :: vS x :: st) σ = run 148 704 (ls) (vI (sx σ j.toNat) :: st) σ := (run_eq 148 703 _ _ σ).trans (if_pos h)
set_option maxRecDepth 20000 in
theorem e148_704 (l st : List AV) (σ : St) (x : Nat) : run 148 704 (vS x :: l) (st) σ = run 148 705 (vS x :: l) (vS x :: st) σ := (run_eq 148 704 _ _ σ).trans rfl
set_option maxRecDepth 20000 in
theorem e148_705 (a0 a1 a2 : AV) (l st : List AV) (σ : St) (x : Int) : run 148 705 (a0 :: a1 :: a2 :: vI x :: l) (st) σ = run 148 706 (a0 :: a1 :: a2 :: vI x :: l) (vI x :: st) σ := (run_eq 148 705 _ _ σ).trans rfl
set_option maxRecDepth 20000 in
theorem e148_706 (ls st : List AV) (σ : St) : run 148 706 (ls) (st) σ = run 148 707 (ls) (vI 2 :: st) σ := (run_eq 148 706 _ _ σ).trans rfl
set_option maxRecDepth 20000 in
theorem e148_707 (ls st : List AV) (σ : St) (y x : Int) : run 148 707 (ls) (vI y :: vI x :: st) σ = run 148 708 (ls) (vI (wr (x + y)) :: st) σ := (run_eq 148 707 _ _ σ).trans rfl
set_option maxRecDepth 20000 in
theorem e148_708 (ls st : List AV) (σ : St) (j : Int) (x : Nat) (h : 0 ≤ j ∧ j < (sl σ : Int)) : run 148 708 (ls) (vI j :: vS x :: st) σ = run 148 709 (ls) (vI (sx σ j.toNat) :: st) σ := (run_eq 148 708 _ _ σ).trans (if_pos h)
set_option maxRecDepth 20000 in
theorem e148_709 (l st : List AV) (σ : St) (x : Nat) : run 148 709 (vS x :: l) (st) σ = run 148 710 (vS x :: l) (vS x :: st) σ := (run_eq 148 709 _ _ σ).trans rfl
set_option maxRecDepth 20000 in
theorem e148_710 (a0 a1 a2 : AV) (l st : List AV) (σ : St) (x : Int) : run 148 710 (a0 :: a1 :: a2 :: vI x :: l) (st) σ = run 148 711 (a0 :: a1 :: a2 :: vI x :: l) (vI x :: st) σ := (run_eq 148 710 _ _ σ).trans rfl
set_option maxRecDepth 20000 in
theorem e148_711 (ls st : List AV) (σ : St) : run 148 711 (ls) (st) σ = run 148 712 (ls) (vI 3 :: st) σ := (run_eq 148 711 _ _ σ).trans rfl
set_option maxRecDepth 20000 in
theorem e148_712 (ls st : List AV) (σ : St) (y x : Int) : run 148 712 (ls) (vI y :: vI x :: st) σ = run 148 713 (ls) (vI (wr (x + y)) :: st) σ := (run_eq 148 712 _ _ σ).trans rfl
set_option maxRecDepth 20000 in
theorem e148_713 (ls st : List AV) (σ : St) (j : Int) (x : Nat) (h : 0 ≤ j ∧ j < (sl σ : Int)) : run 148 713 (ls) (vI j :: vS x :: st) σ = run 148 714 (ls) (vI (sx σ j.toNat) :: st) σ := (run_eq 148 713 _ _ σ).trans (if_pos h)
set_option maxRecDepth 20000 in
theorem e148_714 (ls st : List AV) (σ : St) (x0 : Nat) (x1 : Int) (x2 : Int) (x3 : Int) (h4 : st.length ≤ 4) (h : fok σ x0 3) : run 148 714 ls (vI x3 :: vI x2 :: vI x1 :: vR x0 :: st) σ = bnd (run 129 0 [vR x0, vI x1, vI x2, vI x3, vU, vU, vU, vU] [] σ) (fun r σ => run 148 717 ls (psh r st) σ) := (run_eq 148 714 _ _ σ).trans (if_pos ⟨rfl, by simp, by simpa using h4, rfl, h⟩)
set_option maxRecDepth 20000 in
theorem e148_717 (ls st : List AV) (σ : St) (y x : Int) : run 148 717 (ls) (vI y :: vI x :: st) σ = if x = y then run 148 1016 (ls) (st) σ else run 148 720 (ls) (st) σ := (run_eq 148 717 _ _ σ).trans rfl
set_option maxRecDepth 20000 in
theorem e148_720 (ls st : List AV) (σ : St) : run 148 720 (ls) (st) σ = run 148 721 (ls) (vI 0 :: st) σ := (run_eq 148 720 _ _ σ).trans rfl
set_option maxRecDepth 20000 in
theorem e148_721 (ls : List AV) (σ : St) (x : Int) (h : x = 0 ∨ x = 1) : run 148 721 ls [vI x] σ = some (vI x, σ) := (run_eq 148 721 _ _ σ).trans (if_pos h)
set_option maxRecDepth 20000 in
theorem e148_722 (a0 : AV) (l st : List AV) (σ : St) (x : Nat) : run 148 722 (a0 :: vR x :: l) (st) σ = run 148 723 (a0 :: vR x :: l) (vR x :: st) σ := (run_eq 148 722 _ _ σ).trans rfl
set_option maxRecDepth 20000 in
theorem e148_723 (l st : List AV) (σ : St) (x : Nat) : run 148 723 (vS x :: l) (st) σ = run 148 724 (vS x :: l) (vS x :: st) σ := (run_eq 148 723 _ _ σ).trans rfl
set_option maxRecDepth 20000 in
theorem e148_724 (a0 a1 a2 : AV) (l st : List AV) (σ : St) (x : Int) : run 148 724 (a0 :: a1 :: a2 :: vI x :: l) (st) σ = run 148 725 (a0 :: a1 :: a2 :: vI x :: l) (vI x :: st) σ := (run_eq 148 724 _ _ σ).trans rfl
set_option maxRecDepth 20000 in
theorem e148_725 (ls st : List AV) (σ : St) : run 148 725 (ls) (st) σ = run 148 726 (ls) (vI 1 :: st) σ := (run_eq 148 725 _ _ σ).trans rfl
set_option maxRecDepth 20000 in
theorem e148_726 (ls st : List AV) (σ : St) (y x : Int) : run 148 726 (ls) (vI y :: vI x :: st) σ = run 148 727 (ls) (vI (wr (x + y)) :: st) σ := (run_eq 148 726 _ _ σ).trans rfl
set_option maxRecDepth 20000 in
theorem e148_727 (ls st : List AV) (σ : St) (j : Int) (x : Nat) (h : 0 ≤ j ∧ j < (sl σ : Int)) : run 148 727 (ls) (vI j :: vS x :: st) σ = run 148 728 (ls) (vI (sx σ j.toNat) :: st) σ := (run_eq 148 727 _ _ σ).trans (if_pos h)
set_option maxRecDepth 20000 in
theorem e148_728 (ls st : List AV) (σ : St) (x0 : Nat) (x1 : Int) (h4 : st.length ≤ 4) (h : fok σ x0 2) : run 148 728 ls (vI x1 :: vR x0 :: st) σ = bnd (run 69 0 [vR x0, vI x1] [] σ) (fun r σ => run 148 731 ls (psh r st) σ) := (run_eq 148 728 _ _ σ).trans (if_pos ⟨rfl, by simp, by simpa using h4, rfl, h⟩)
set_option maxRecDepth 20000 in
theorem e148_731 (a0 a1 : AV) (l st : List AV) (σ : St) (x : Nat) : run 148 731 (a0 :: a1 :: vR x :: l) (st) σ = run 148 732 (a0 :: a1 :: vR x :: l) (vR x :: st) σ := (run_eq 148 731 _ _ σ).trans rfl
set_option maxRecDepth 20000 in
theorem e148_732 (l st : List AV) (σ : St) (x : Nat) : run 148 732 (vS x :: l) (st) σ = run 148 733 (vS x :: l) (vS x :: st) σ := (run_eq 148 732 _ _ σ).trans rfl
set_option maxRecDepth 20000 in
theorem e148_733 (a0 a1 a2 : AV) (l st : List AV) (σ : St) (x : Int) : run 148 733 (a0 :: a1 :: a2 :: vI x :: l) (st) σ = run 148 734 (a0 :: a1 :: a2 :: vI x :: l) (vI x :: st) σ := (run_eq 148 733 _ _ σ).trans rfl
set_option maxRecDepth 20000 in
theorem e148_734 (ls st : List AV) (σ : St) : run 148 734 (ls) (st) σ = run 148 735 (ls) (vI 1 :: st) σ := (run_eq 148 734 _ _ σ).trans rfl
set_option maxRecDepth 20000 in
theorem e148_735 (ls st : List AV) (σ : St) (y x : Int) : run 148 735 (ls) (vI y :: vI x :: st) σ = run 148 736 (ls) (vI (wr (x + y)) :: st) σ := (run_eq 148 735 _ _ σ).trans rfl
set_option maxRecDepth 20000 in
theorem e148_736 (ls st : List AV) (σ : St) (j : Int) (x : Nat) (h : 0 ≤ j ∧ j < (sl σ : Int)) : run 148 736 (ls) (vI j :: vS x :: st) σ = run 148 737 (ls) (vI (sx σ j.toNat) :: st) σ := (run_eq 148 736 _ _ σ).trans (if_pos h)
set_option maxRecDepth 20000 in
theorem e148_737 (ls st : List AV) (σ : St) (x0 : Nat) (x1 : Int) (h4 : st.length ≤ 4) (h : fok σ x0 3) : run 148 737 ls (vI x1 :: vR x0 :: st) σ = bnd (run 132 0 [vR x0, vI x1] [] σ) (fun r σ => run 148 740 ls (psh r st) σ) := (run_eq 148 737 _ _ σ).trans (if_pos ⟨rfl, by simp, by simpa using h4, rfl, h⟩)
set_option maxRecDepth 20000 in
theorem e148_740 (ls st : List AV) (σ : St) (y x : Int) : run 148 740 (ls) (vI y :: vI x :: st) σ = if x = y then run 148 1016 (ls) (st) σ else run 148 743 (ls) (st) σ := (run_eq 148 740 _ _ σ).trans rfl
set_option maxRecDepth 20000 in
theorem e148_743 (ls st : List AV) (σ : St) : run 148 743 (ls) (st) σ = run 148 744 (ls) (vI 0 :: st) σ := (run_eq 148 743 _ _ σ).trans rfl
set_option maxRecDepth 20000 in
theorem e148_744 (ls : List AV) (σ : St) (x : Int) (h : x = 0 ∨ x = 1) : run 148 744 ls [vI x] σ = some (vI x, σ) := (run_eq 148 744 _ _ σ).trans (if_pos h)
set_option maxRecDepth 20000 in
theorem e148_745 (a0 : AV) (l st : List AV) (σ : St) (x : Nat) : run 148 745 (a0 :: vR x :: l) (st) σ = run 148 746 (a0 :: vR x :: l) (vR x :: st) σ := (run_eq 148 745 _ _ σ).trans rfl
set_option maxRecDepth 20000 in
theorem e148_746 (l st : List AV) (σ : St) (x : Nat) : run 148 746 (vS x :: l) (st) σ = run 148 747 (vS x :: l) (vS x :: st) σ := (run_eq 148 746 _ _ σ).trans rfl
set_option maxRecDepth 20000 in
theorem e148_747 (a0 a1 a2 : AV) (l st : List AV) (σ : St) (x : Int) : run 148 747 (a0 :: a1 :: a2 :: vI x :: l) (st) σ = run 148 748 (a0 :: a1 :: a2 :: vI x :: l) (vI x :: st) σ := (run_eq 148 747 _ _ σ).trans rfl
set_option maxRecDepth 20000 in
theorem e148_748 (ls st : List AV) (σ : St) : run 148 748 (ls) (st) σ = run 148 749 (ls) (vI 1 :: st) σ := (run_eq 148 748 _ _ σ).trans rfl
set_option maxRecDepth 20000 in
theorem e148_749 (ls st : List AV) (σ : St) (y x : Int) : run 148 749 (ls) (vI y :: vI x :: st) σ = run 148 750 (ls) (vI (wr (x + y)) :: st) σ := (run_eq 148 749 _ _ σ).trans rfl
set_option maxRecDepth 20000 in
theorem e148_750 (ls st : List AV) (σ : St) (j : Int) (x : Nat) (h : 0 ≤ j ∧ j < (sl σ : Int)) : run 148 750 (ls) (vI j :: vS x :: st) σ = run 148 751 (ls) (vI (sx σ j.toNat) :: st) σ := (run_eq 148 750 _ _ σ).trans (if_pos h)
set_option maxRecDepth 20000 in
theorem e148_751 (ls st : List AV) (σ : St) (x0 : Nat) (x1 : Int) (h4 : st.length ≤ 4) (h : fok σ x0 2) : run 148 751 ls (vI x1 :: vR x0 :: st) σ = bnd (run 72 0 [vR x0, vI x1, vU, vU, vU, vU] [] σ) (fun r σ => run 148 754 ls (psh r st) σ) := (run_eq 148 751 _ _ σ).trans (if_pos ⟨rfl, by simp, by simpa using h4, rfl, h⟩)
set_option maxRecDepth 20000 in
theorem e148_754 (a0 a1 : AV) (l st : List AV) (σ : St) (x : Nat) : run 148 754 (a0 :: a1 :: vR x :: l) (st) σ = run 148 755 (a0 :: a1 :: vR x :: l) (vR x :: st) σ := (run_eq 148 754 _ _ σ).trans rfl
set_option maxRecDepth 20000 in
theorem e148_755 (l st : List AV) (σ : St) (x : Nat) : run 148 755 (vS x :: l) (st) σ = run 148 756 (vS x :: l) (vS x :: st) σ := (run_eq 148 755 _ _ σ).trans rfl
set_option maxRecDepth 20000 in
theorem e148_756 (a0 a1 a2 : AV) (l st : List AV) (σ : St) (x : Int) : run 148 756 (a0 :: a1 :: a2 :: vI x :: l) (st) σ = run 148 757 (a0 :: a1 :: a2 :: vI x :: l) (vI x :: st) σ := (run_eq 148 756 _ _ σ).trans rfl
set_option maxRecDepth 20000 in
theorem e148_757 (ls st : List AV) (σ : St) : run 148 757 (ls) (st) σ = run 148 758 (ls) (vI 1 :: st) σ := (run_eq 148 757 _ _ σ).trans rfl
set_option maxRecDepth 20000 in
theorem e148_758 (ls st : List AV) (σ : St) (y x : Int) : run 148 758 (ls) (vI y :: vI x :: st) σ = run 148 759 (ls) (vI (wr (x + y)) :: st) σ := (run_eq 148 758 _ _ σ).trans rfl
set_option maxRecDepth 20000 in
theorem e148_759 (ls st : List AV) (σ : St) (j : Int) (x : Nat) (h : 0 ≤ j ∧ j < (sl σ : Int)) : run 148 759 (ls) (vI j :: vS x :: st) σ = run 148 760 (ls) (vI (sx σ j.toNat) :: st) σ := (run_eq 148 759 _ _ σ).trans (if_pos h)
set_option maxRecDepth 20000 in
theorem e148_760 (ls st : List AV) (σ : St) (x0 : Nat) (x1 : Int) (h4 : st.length ≤ 4) (h : fok σ x0 3) : run 148 760 ls (vI x1 :: vR x0 :: st) σ = bnd (run 135 0 [vR x0, vI x1, vU, vU] [] σ) (fun r σ => run 148 763 ls (psh r st) σ) := (run_eq 148 760 _ _ σ).trans (if_pos ⟨rfl, by simp, by simpa using h4, rfl, h⟩)
set_option maxRecDepth 20000 in
theorem e148_763 (ls st : List AV) (σ : St) (y x : Int) : run 148 763 (ls) (vI y :: vI x :: st) σ = if x = y then run 148 1016 (ls) (st) σ else run 148 766 (ls) (st) σ := (run_eq 148 763 _ _ σ).trans rfl
set_option maxRecDepth 20000 in
theorem e148_766 (ls st : List AV) (σ : St) : run 148 766 (ls) (st) σ = run 148 767 (ls) (vI 0 :: st) σ := (run_eq 148 766 _ _ σ).trans rfl
set_option maxRecDepth 20000 in
theorem e148_767 (ls : List AV) (σ : St) (x : Int) (h : x = 0 ∨ x = 1) : run 148 767 ls [vI x] σ = some (vI x, σ) := (run_eq 148 767 _ _ σ).trans (if_pos h)
set_option maxRecDepth 20000 in
theorem e148_768 (a0 : AV) (l st : List AV) (σ : St) (x : Nat) : run 148 768 (a0 :: vR x :: l) (st) σ = run 148 769 (a0 :: vR x :: l) (vR x :: st) σ := (run_eq 148 768 _ _ σ).trans rfl
set_option maxRecDepth 20000 in
theorem e148_769 (l st : List AV) (σ : St) (x : Nat) : run 148 769 (vS x :: l) (st) σ = run 148 770 (vS x :: l) (vS x :: st) σ := (run_eq 148 769 _ _ σ).trans rfl
set_option maxRecDepth 20000 in
theorem e148_770 (a0 a1 a2 : AV) (l st : List AV) (σ : St) (x : Int) : run 148 770 (a0 :: a1 :: a2 :: vI x :: l) (st) σ = run 148 771 (a0 :: a1 :: a2 :: vI x :: l) (vI x :: st) σ := (run_eq 148 770 _ _ σ).trans rfl
set_option maxRecDepth 20000 in
theorem e148_771 (ls st : List AV) (σ : St) : run 148 771 (ls) (st) σ = run 148 772 (ls) (vI 1 :: st) σ := (run_eq 148 771 _ _ σ).trans rfl
set_option maxRecDepth 20000 in
theorem e148_772 (ls st : List AV) (σ : St) (y x : Int) : run 148 772 (ls) (vI y :: vI x :: st) σ = run 148 773 (ls) (vI (wr (x + y)) :: st) σ := (run_eq 148 772 _ _ σ).trans rfl
set_option maxRecDepth 20000 in
theorem e148_773 (ls st : List AV) (σ : St) (j : Int) (x : Nat) (h : 0 ≤ j ∧ j < (sl σ : Int)) : run 148 773 (ls) (vI j :: vS x :: st) σ = run 148 774 (ls) (vI (sx σ j.toNat) :: st) σ := (run_eq 148 773 _ _ σ).trans (if_pos h)
set_option maxRecDepth 20000 in
theorem e148_774 (l st : List AV) (σ : St) (x : Nat) : run 148 774 (vS x :: l) (st) σ = run 148 775 (vS x :: l) (vS x :: st) σ := (run_eq 148 774 _ _ σ).trans rfl
set_option maxRecDepth 20000 in
theorem e148_775 (a0 a1 a2 : AV) (l st : List AV) (σ : St) (x : Int) : run 148 775 (a0 :: a1 :: a2 :: vI x :: l) (st) σ = run 148 776 (a0 :: a1 :: a2 :: vI x :: l) (vI x :: st) σ := (run_eq 148 775 _ _ σ).trans rfl
set_option maxRecDepth 20000 in
theorem e148_776 (ls st : List AV) (σ : St) : run 148 776 (ls) (st) σ = run 148 777 (ls) (vI 2 :: st) σ := (run_eq 148 776 _ _ σ).trans rfl
set_option maxRecDepth 20000 in
theorem e148_777 (ls st : List AV) (σ : St) (y x : Int) : run 148 777 (ls) (vI y :: vI x :: st) σ = run 148 778 (ls) (vI (wr (x + y)) :: st) σ := (run_eq 148 777 _ _ σ).trans rfl
set_option maxRecDepth 20000 in
theorem e148_778 (ls st : List AV) (σ : St) (j : Int) (x : Nat) (h : 0 ≤ j ∧ j < (sl σ : Int)) : run 148 778 (ls) (vI j :: vS x :: st) σ = run 148 779 (ls) (vI (sx σ j.toNat) :: st) σ := (run_eq 148 778 _ _ σ).trans (if_pos h)
set_option maxRecDepth 20000 in
theorem e148_779 (ls st : List AV) (σ : St) (x0 : Nat) (x1 : Int) (x2 : Int) (h4 : st.length ≤ 4) (h : fok σ x0 2) : run 148 779 ls (vI x2 :: vI x1 :: vR x0 :: st) σ = bnd (run 73 0 [vR x0, vI x1, vI x2] [] σ) (fun r σ => run 148 782 ls (psh r st) σ) := (run_eq 148 779 _ _ σ).trans (if_pos ⟨rfl, by simp, by simpa using h4, rfl, h⟩)
set_option maxRecDepth 20000 in
theorem e148_782 (a0 a1 : AV) (l st : List AV) (σ : St) (x : Nat) : run 148 782 (a0 :: a1 :: vR x :: l) (st) σ = run 148 783 (a0 :: a1 :: vR x :: l) (vR x :: st) σ := (run_eq 148 782 _ _ σ).trans rfl
set_option maxRecDepth 20000 in
theorem e148_783 (l st : List AV) (σ : St) (x : Nat) : run 148 783 (vS x :: l) (st) σ = run 148 784 (vS x :: l) (vS x :: st) σ := (run_eq 148 783 _ _ σ).trans rfl
set_option maxRecDepth 20000 in
theorem e148_784 (a0 a1 a2 : AV) (l st : List AV) (σ : St) (x : Int) : run 148 784 (a0 :: a1 :: a2 :: vI x :: l) (st) σ = run 148 785 (a0 :: a1 :: a2 :: vI x :: l) (vI x :: st) σ := (run_eq 148 784 _ _ σ).trans rfl
set_option maxRecDepth 20000 in
theorem e148_785 (ls st : List AV) (σ : St) : run 148 785 (ls) (st) σ = run 148 786 (ls) (vI 1 :: st) σ := (run_eq 148 785 _ _ σ).trans rfl
set_option maxRecDepth 20000 in
theorem e148_786 (ls st : List AV) (σ : St) (y x : Int) : run 148 786 (ls) (vI y :: vI x :: st) σ = run 148 787 (ls) (vI (wr (x + y)) :: st) σ := (run_eq 148 786 _ _ σ).trans rfl
set_option maxRecDepth 20000 in
theorem e148_787 (ls st : List AV) (σ : St) (j : Int) (x : Nat) (h : 0 ≤ j ∧ j < (sl σ : Int)) : run 148 787 (ls) (vI j :: vS x :: st) σ = run 148 788 (ls) (vI (sx σ j.toNat) :: st) σ := (run_eq 148 787 _ _ σ).trans (if_pos h)
set_option maxRecDepth 20000 in
theorem e148_788 (l st : List AV) (σ : St) (x : Nat) : run 148 788 (vS x :: l) (st) σ = run 148 789 (vS x :: l) (vS x :: st) σ := (run_eq 148 788 _ _ σ).trans rfl
set_option maxRecDepth 20000 in
theorem e148_789 (a0 a1 a2 : AV) (l st : List AV) (σ : St) (x : Int) : run 148 789 (a0 :: a1 :: a2 :: vI x :: l) (st) σ = run 148 790 (a0 :: a1 :: a2 :: vI x :: l) (vI x :: st) σ := (run_eq 148 789 _ _ σ).trans rfl
set_option maxRecDepth 20000 in
theorem e148_790 (ls st : List AV) (σ : St) : run 148 790 (ls) (st) σ = run 148 791 (ls) (vI 2 :: st) σ := (run_eq 148 790 _ _ σ).trans rfl
set_option maxRecDepth 20000 in
theorem e148_791 (ls st : List AV) (σ : St) (y x : Int) : run 148 791 (ls) (vI y :: vI x :: st) σ = run 148 792 (ls) (vI (wr (x + y)) :: st) σ := (run_eq 148 791 _ _ σ).trans rfl
set_option maxRecDepth 20000 in
theorem e148_792 (ls st : List AV) (σ : St) (j : Int) (x : Nat) (h : 0 ≤ j ∧ j < (sl σ : Int)) : run 148 792 (ls) (vI j :: vS x :: st) σ = run 148 793 (ls) (vI (sx σ j.toNat) :: st) σ := (run_eq 148 792 _ _ σ).trans (if_pos h)
set_option maxRecDepth 20000 in
theorem e148_793 (ls st : List AV) (σ : St) (x0 : Nat) (x1 : Int) (x2 : Int) (h4 : st.length ≤ 4) (h : fok σ x0 3) : run 148 793 ls (vI x2 :: vI x1 :: vR x0 :: st) σ = bnd (run 136 0 [vR x0, vI x1, vI x2] [] σ) (fun r σ => run 148 796 ls (psh r st) σ) := (run_eq 148 793 _ _ σ).trans (if_pos ⟨rfl, by simp, by simpa using h4, rfl, h⟩)
set_option maxRecDepth 20000 in
theorem e148_796 (ls st : List AV) (σ : St) (y x : Int) : run 148 796 (ls) (vI y :: vI x :: st) σ = if x = y then run 148 1016 (ls) (st) σ else run 148 799 (ls) (st) σ := (run_eq 148 796 _ _ σ).trans rfl
set_option maxRecDepth 20000 in
theorem e148_799 (ls st : List AV) (σ : St) : run 148 799 (ls) (st) σ = run 148 800 (ls) (vI 0 :: st) σ := (run_eq 148 799 _ _ σ).trans rfl
set_option maxRecDepth 20000 in
theorem e148_800 (ls : List AV) (σ : St) (x : Int) (h : x = 0 ∨ x = 1) : run 148 800 ls [vI x] σ = some (vI x, σ) := (run_eq 148 800 _ _ σ).trans (if_pos h)
set_option maxRecDepth 20000 in
theorem e148_801 (a0 : AV) (l st : List AV) (σ : St) (x : Nat) : run 148 801 (a0 :: vR x :: l) (st) σ = run 148 802 (a0 :: vR x :: l) (vR x :: st) σ := (run_eq 148 801 _ _ σ).trans rfl
set_option maxRecDepth 20000 in
theorem e148_802 (ls st : List AV) (σ : St) (x0 : Nat) (h4 : st.length ≤ 4) (h : fok σ x0 2) : run 148 802 ls (vR x0 :: st) σ = bnd (run 74 0 [vR x0, vU] [] σ) (fun r σ => run 148 805 ls (psh r st) σ) := (run_eq 148 802 _ _ σ).trans (if_pos ⟨rfl, by simp, by simpa using h4, rfl, h⟩)
set_option maxRecDepth 20000 in
theorem e148_805 (a0 a1 : AV) (l st : List AV) (σ : St) (x : Nat) : run 148 805 (a0 :: a1 :: vR x :: l) (st) σ = run 148 806 (a0 :: a1 :: vR x :: l) (vR x :: st) σ := (run_eq 148 805 _ _ σ).trans rfl
set_option maxRecDepth 20000 in
theorem e148_806 (ls st : List AV) (σ : St) (x0 : Nat) (h4 : st.length ≤ 4) (h : fok σ x0 3) : run 148 806 ls (vR x0 :: st) σ = bnd (run 137 0 [vR x0, vU] [] σ) (fun r σ => run 148 809 ls (psh r st) σ) := (run_eq 148 806 _ _ σ).trans (if_pos ⟨rfl, by simp, by simpa using h4, rfl, h⟩)
set_option maxRecDepth 20000 in
theorem e148_809 (ls st : List AV) (σ : St) (y x : Int) : run 148 809 (ls) (vI y :: vI x :: st) σ = if x = y then run 148 1016 (ls) (st) σ else run 148 812 (ls) (st) σ := (run_eq 148 809 _ _ σ).trans rfl
set_option maxRecDepth 20000 in
theorem e148_812 (ls st : List AV) (σ : St) : run 148 812 (ls) (st) σ = run 148 813 (ls) (vI 0 :: st) σ := (run_eq 148 812 _ _ σ).trans rfl
set_option maxRecDepth 20000 in
theorem e148_813 (ls : List AV) (σ : St) (x : Int) (h : x = 0 ∨ x = 1) : run 148 813 ls [vI x] σ = some (vI x, σ) := (run_eq 148 813 _ _ σ).trans (if_pos h)
set_option maxRecDepth 20000 in
theorem e148_814 (a0 : AV) (l st : List AV) (σ : St) (x : Nat) : run 148 814 (a0 :: vR x :: l) (st) σ = run 148 815 (a0 :: vR x :: l) (vR x :: st) σ := (run_eq 148 814 _ _ σ).trans rfl
set_option maxRecDepth 20000 in
theorem e148_815 (l st : List AV) (σ : St) (x : Nat) : run 148 815 (vS x :: l) (st) σ = run 148 816 (vS x :: l) (vS x :: st) σ := (run_eq 148 815 _ _ σ).trans rfl
set_option maxRecDepth 20000 in
theorem e148_816 (a0 a1 a2 : AV) (l st : List AV) (σ : St) (x : Int) : run 148 816 (a0 :: a1 :: a2 :: vI x :: l) (st) σ = run 148 817 (a0 :: a1 :: a2 :: vI x :: l) (vI x :: st) σ := (run_eq 148 816 _ _ σ).trans rfl
set_option maxRecDepth 20000 in
theorem e148_817 (ls st : List AV) (σ : St) : run 148 817 (ls) (st) σ = run 148 818 (ls) (vI 1 :: st) σ := (run_eq 148 817 _ _ σ).trans rfl
set_option maxRecDepth 20000 in
theorem e148_818 (ls st : List AV) (σ : St) (y x : Int) : run 148 818 (ls) (vI y :: vI x :: st) σ = run 148 819 (ls) (vI (wr (x + y)) :: st) σ := (run_eq 148 818 _ _ σ).trans rfl
set_option maxRecDepth 20000 in
theorem e148_819 (ls st : List AV) (σ : St) (j : Int) (x : Nat) (h : 0 ≤ j ∧ j < (sl σ : Int)) : run 148 819 (ls) (vI j :: vS x :: st) σ = run 148 820 (ls) (vI (sx σ j.toNat) :: st) σ := (run_eq 148 819 _ _ σ).trans (if_pos h)
set_option maxRecDepth 20000 in
theorem e148_820 (ls st : List AV) (σ : St) (x0 : Nat) (x1 : Int) (h4 : st.length ≤ 4) (h : fok σ x0 2) : run 148 820 ls (vI x1 :: vR x0 :: st) σ = bnd (run 75 0 [vR x0, vI x1, vU] [] σ) (fun r σ => run 148 823 ls (psh r st) σ) := (run_eq 148 820 _ _ σ).trans (if_pos ⟨rfl, by simp, by simpa using h4, rfl, h⟩)
set_option maxRecDepth 20000 in
theorem e148_823 (a0 a1 : AV) (l st : List AV) (σ : St) (x : Nat) : run 148 823 (a0 :: a1 :: vR x :: l) (st) σ = run 148 824 (a0 :: a1 :: vR x :: l) (vR x :: st) σ := (run_eq 148 823 _ _ σ).trans rfl
set_option maxRecDepth 20000 in
theorem e148_824 (l st : List AV) (σ : St) (x : Nat) : run 148 824 (vS x :: l) (st) σ = run 148 825 (vS x :: l) (vS x :: st) σ := (run_eq 148 824 _ _ σ).trans rfl
set_option maxRecDepth 20000 in
theorem e148_825 (a0 a1 a2 : AV) (l st : List AV) (σ : St) (x : Int) : run 148 825 (a0 :: a1 :: a2 :: vI x :: l) (st) σ = run 148 826 (a0 :: a1 :: a2 :: vI x :: l) (vI x :: st) σ := (run_eq 148 825 _ _ σ).trans rfl
set_option maxRecDepth 20000 in
theorem e148_826 (ls st : List AV) (σ : St) : run 148 826 (ls) (st) σ = run 148 827 (ls) (vI 1 :: st) σ := (run_eq 148 826 _ _ σ).trans rfl
set_option maxRecDepth 20000 in
theorem e148_827 (ls st : List AV) (σ : St) (y x : Int) : run 148 827 (ls) (vI y :: vI x :: st) σ = run 148 828 (ls) (vI (wr (x + y)) :: st) σ := (run_eq 148 827 _ _ σ).trans rfl
set_option maxRecDepth 20000 in
theorem e148_828 (ls st : List AV) (σ : St) (j : Int) (x : Nat) (h : 0 ≤ j ∧ j < (sl σ : Int)) : run 148 828 (ls) (vI j :: vS x :: st) σ = run 148 829 (ls) (vI (sx σ j.toNat) :: st) σ := (run_eq 148 828 _ _ σ).trans (if_pos h)
set_option maxRecDepth 20000 in
theorem e148_829 (ls st : List AV) (σ : St) (x0 : Nat) (x1 : Int) (h4 : st.length ≤ 4) (h : fok σ x0 3) : run 148 829 ls (vI x1 :: vR x0 :: st) σ = bnd (run 138 0 [vR x0, vI x1, vU, vU] [] σ) (fun r σ => run 148 832 ls (psh r st) σ) := (run_eq 148 829 _ _ σ).trans (if_pos ⟨rfl, by simp, by simpa using h4, rfl, h⟩)
set_option maxRecDepth 20000 in
theorem e148_832 (ls st : List AV) (σ : St) (y x : Int) : run 148 832 (ls) (vI y :: vI x :: st) σ = if x = y then run 148 1016 (ls) (st) σ else run 148 835 (ls) (st) σ := (run_eq 148 832 _ _ σ).trans rfl
set_option maxRecDepth 20000 in
theorem e148_835 (ls st : List AV) (σ : St) : run 148 835 (ls) (st) σ = run 148 836 (ls) (vI 0 :: st) σ := (run_eq 148 835 _ _ σ).trans rfl
set_option maxRecDepth 20000 in
theorem e148_836 (ls : List AV) (σ : St) (x : Int) (h : x = 0 ∨ x = 1) : run 148 836 ls [vI x] σ = some (vI x, σ) := (run_eq 148 836 _ _ σ).trans (if_pos h)
set_option maxRecDepth 20000 in
theorem e148_837 (a0 : AV) (l st : List AV) (σ : St) (x : Nat) : run 148 837 (a0 :: vR x :: l) (st) σ = run 148 838 (a0 :: vR x :: l) (vR x :: st) σ := (run_eq 148 837 _ _ σ).trans rfl
set_option maxRecDepth 20000 in
theorem e148_838 (ls st : List AV) (σ : St) (x0 : Nat) (h4 : st.length ≤ 4) (h : fok σ x0 2) : run 148 838 ls (vR x0 :: st) σ = bnd (run 78 0 [vR x0, vU, vU, vU] [] σ) (fun r σ => run 148 841 ls (psh r st) σ) := (run_eq 148 838 _ _ σ).trans (if_pos ⟨rfl, by simp, by simpa using h4, rfl, h⟩)
set_option maxRecDepth 20000 in
theorem e148_841 (a0 a1 : AV) (l st : List AV) (σ : St) (x : Nat) : run 148 841 (a0 :: a1 :: vR x :: l) (st) σ = run 148 842 (a0 :: a1 :: vR x :: l) (vR x :: st) σ := (run_eq 148 841 _ _ σ).trans rfl
set_option maxRecDepth 20000 in
theorem e148_842 (ls st : List AV) (σ : St) (x0 : Nat) (h4 : st.length ≤ 4) (h : fok σ x0 3) : run 148 842 ls (vR x0 :: st) σ = bnd (run 140 0 [vR x0, vU, vU] [] σ) (fun r σ => run 148 845 ls (psh r st) σ) := (run_eq 148 842 _ _ σ).trans (if_pos ⟨rfl, by simp, by simpa using h4, rfl, h⟩)
set_option maxRecDepth 20000 in
theorem e148_845 (ls st : List AV) (σ : St) (y x : Int) : run 148 845 (ls) (vI y :: vI x :: st) σ = if x = y then run 148 1016 (ls) (st) σ else run 148 848 (ls) (st) σ := (run_eq 148 845 _ _ σ).trans rfl
set_option maxRecDepth 20000 in
theorem e148_848 (ls st : List AV) (σ : St) : run 148 848 (ls) (st) σ = run 148 849 (ls) (vI 0 :: st) σ := (run_eq 148 848 _ _ σ).trans rfl
set_option maxRecDepth 20000 in
theorem e148_849 (ls : List AV) (σ : St) (x : Int) (h : x = 0 ∨ x = 1) : run 148 849 ls [vI x] σ = some (vI x, σ) := (run_eq 148 849 _ _ σ).trans (if_pos h)
set_option maxRecDepth 20000 in
theorem e148_850 (a0 : AV) (l st : List AV) (σ : St) (x : Nat) : run 148 850 (a0 :: vR x :: l) (st) σ = run 148 851 (a0 :: vR x :: l) (vR x :: st) σ := (run_eq 148 850 _ _ σ).trans rfl
set_option maxRecDepth 20000 in
theorem e148_851 (l st : List AV) (σ : St) (x : Nat) : run 148 851 (vS x :: l) (st) σ = run 148 852 (vS x :: l) (vS x :: st) σ := (run_eq 148 851 _ _ σ).trans rfl
set_option maxRecDepth 20000 in
theorem e148_852 (a0 a1 a2 : AV) (l st : List AV) (σ : St) (x : Int) : run 148 852 (a0 :: a1 :: a2 :: vI x :: l) (st) σ = run 148 853 (a0 :: a1 :: a2 :: vI x :: l) (vI x :: st) σ := (run_eq 148 852 _ _ σ).trans rfl
set_option maxRecDepth 20000 in
theorem e148_853 (ls st : List AV) (σ : St) : run 148 853 (ls) (st) σ = run 148 854 (ls) (vI 1 :: st) σ := (run_eq 148 853 _ _ σ).trans rfl
set_option maxRecDepth 20000 in
theorem e148_854 (ls st : List AV) (σ : St) (y x : Int) : run 148 854 (ls) (vI y :: vI x :: st) σ = run 148 855 (ls) (vI (wr (x + y)) :: st) σ := (run_eq 148 854 _ _ σ).trans rfl
set_option maxRecDepth 20000 in
theorem e148_855 (ls st : List AV) (σ : St) (j : Int) (x : Nat) (h : 0 ≤ j ∧ j < (sl σ : Int)) : run 148 855 (ls) (vI j :: vS x :: st) σ = run 148 856 (ls) (vI (sx σ j.toNat) :: st) σ := (run_eq 148 855 _ _ σ).trans (if_pos h)
set_option maxRecDepth 20000 in
theorem e148_856 (l st : List AV) (σ : St) (x : Nat) : run 148 856 (vS x :: l) (st) σ = run 148 857 (vS x :: l) (vS x :: st) σ := (run_eq 148 856 _ _ σ).trans rfl
set_option maxRecDepth 20000 in
theorem e148_857 (a0 a1 a2 : AV) (l st : List AV) (σ : St) (x : Int) : run 148 857 (a0 :: a1 :: a2 :: vI x :: l) (st) σ = run 148 858 (a0 :: a1 :: a2 :: vI x :: l) (vI x :: st) σ := (run_eq 148 857 _ _ σ).trans rfl
set_option maxRecDepth 20000 in
theorem e148_858 (ls st : List AV) (σ : St) : run 148 858 (ls) (st) σ = run 148 859 (ls) (vI 2 :: st) σ := (run_eq 148 858 _ _ σ).trans rfl
set_option maxRecDepth 20000 in
theorem e148_859 (ls st : List AV) (σ : St) (y x : Int) : run 148 859 (ls) (vI y :: vI x :: st) σ = run 148 860 (ls) (vI (wr (x + y)) :: st) σ := (run_eq 148 859 _ _ σ).trans rfl
set_option maxRecDepth 20000 in
theorem e148_860 (ls st : List AV) (σ : St) (j : Int) (x : Nat) (h : 0 ≤ j ∧ j < (sl σ : Int)) : run 148 860 (ls) (vI j :: vS x :: st) σ = run 148 861 (ls) (vI (sx σ j.toNat) :: st) σ := (run_eq 148 860 _ _ σ).trans (if_pos h)
set_option maxRecDepth 20000 in
theorem e148_861 (l st : List AV) (σ : St) (x : Nat) : run 148 861 (vS x :: l) (st) σ = run 148 862 (vS x :: l) (vS x :: st) σ := (run_eq 148 861 _ _ σ).trans rfl
set_option maxRecDepth 20000 in
theorem e148_862 (a0 a1 a2 : AV) (l st : List AV) (σ : St) (x : Int) : run 148 862 (a0 :: a1 :: a2 :: vI x :: l) (st) σ = run 148 863 (a0 :: a1 :: a2 :: vI x :: l) (vI x :: st) σ := (run_eq 148 862 _ _ σ).trans rfl
set_option maxRecDepth 20000 in
theorem e148_863 (ls st : List AV) (σ : St) : run 148 863 (ls) (st) σ = run 148 864 (ls) (vI 3 :: st) σ := (run_eq 148 863 _ _ σ).trans rfl
set_option maxRecDepth 20000 in
theorem e148_864 (ls st : List AV) (σ : St) (y x : Int) : run 148 864 (ls) (vI y :: vI x :: st) σ = run 148 865 (ls) (vI (wr (x + y)) :: st) σ := (run_eq 148 864 _ _ σ).trans rfl
set_option maxRecDepth 20000 in
theorem e148_865 (ls st : List AV) (σ : St) (j : Int) (x : Nat) (h : 0 ≤ j ∧ j < (sl σ : Int)) : run 148 865 (ls) (vI j :: vS x :: st) σ = run 148 866 (ls) (vI (sx σ j.toNat) :: st) σ := (run_eq 148 865 _ _ σ).trans (if_pos h)
set_option maxRecDepth 20000 in
theorem e148_866 (l st : List AV) (σ : St) (x : Nat) : run 148 866 (vS x :: l) (st) σ = run 148 867 (vS x :: l) (vS x :: st) σ := (run_eq 148 866 _ _ σ).trans rfl
set_option maxRecDepth 20000 in
theorem e148_867 (a0 a1 a2 : AV) (l st : List AV) (σ : St) (x : Int) : run 148 867 (a0 :: a1 :: a2 :: vI x :: l) (st) σ = run 148 868 (a0 :: a1 :: a2 :: vI x :: l) (vI x :: st) σ := (run_eq 148 867 _ _ σ).trans rfl
set_option maxRecDepth 20000 in
theorem e148_868 (ls st : List AV) (σ : St) : run 148 868 (ls) (st) σ = run 148 869 (ls) (vI 4 :: st) σ := (run_eq 148 868 _ _ σ).trans rfl
set_option maxRecDepth 20000 in
theorem e148_869 (ls st : List AV) (σ : St) (y x : Int) : run 148 869 (ls) (vI y :: vI x :: st) σ = run 148 870 (ls) (vI (wr (x + y)) :: st) σ := (run_eq 148 869 _ _ σ).trans rfl
set_option maxRecDepth 20000 in
theorem e148_870 (ls st : List AV) (σ : St) (j : Int) (x : Nat) (h : 0 ≤ j ∧ j < (sl σ : Int)) : run 148 870 (ls) (vI j :: vS x :: st) σ = run 148 871 (ls) (vI (sx σ j.toNat) :: st) σ := (run_eq 148 870 _ _ σ).trans (if_pos h)
set_option maxRecDepth 20000 in
theorem e148_871 (ls st : List AV) (σ : St) (x0 : Nat) (x1 : Int) (x2 : Int) (x3 : Int) (x4 : Int) (h4 : st.length ≤ 4) (h : fok σ x0 2) : run 148 871 ls (vI x4 :: vI x3 :: vI x2 :: vI x1 :: vR x0 :: st) σ = bnd (run 79 0 [vR x0, vI x1, vI x2, vI x3, vI x4, vU, vU, vU, vU, vU] [] σ) (fun r σ => run 148 874 ls (psh r st) σ) := (run_eq 148 871 _ _ σ).trans (if_pos ⟨rfl, by simp, by simpa using h4, rfl, h⟩)
set_option maxRecDepth 20000 in
theorem e148_874 (a0 a1 : AV) (l st : List AV) (σ : St) (x : Nat) : run 148 874 (a0 :: a1 :: vR x :: l) (st) σ = run 148 875 (a0 :: a1 :: vR x :: l) (vR x :: st) σ := (run_eq 148 874 _ _ σ).trans rfl
set_option maxRecDepth 20000 in
theorem e148_875 (l st : List AV) (σ : St) (x : Nat) : run 148 875 (vS x :: l) (st) σ = run 148 876 (vS x :: l) (vS x :: st) σ := (run_eq 148 875 _ _ σ).trans rfl
set_option maxRecDepth 20000 in
theorem e148_876 (a0 a1 a2 : AV) (l st : List AV) (σ : St) (x : Int) : run 148 876 (a0 :: a1 :: a2 :: vI x :: l) (st) σ = run 148 877 (a0 :: a1 :: a2 :: vI x :: l) (vI x :: st) σ := (run_eq 148 876 _ _ σ).trans rfl
set_option maxRecDepth 20000 in
theorem e148_877 (ls st : List AV) (σ : St) : run 148 877 (ls) (st) σ = run 148 878 (ls) (vI 1 :: st) σ := (run_eq 148 877 _ _ σ).trans rfl
set_option maxRecDepth 20000 in
theorem e148_878 (ls st : List AV) (σ : St) (y x : Int) : run 148 878 (ls) (vI y :: vI x :: st) σ = run 148 879 (ls) (vI (wr (x + y)) :: st) σ := (run_eq 148 878 _ _ σ).trans rfl
set_option maxRecDepth 20000 in
theorem e148_879 (ls st : List AV) (σ : St) (j : Int) (x : Nat) (h : 0 ≤ j ∧ j < (sl σ : Int)) : run 148 879 (ls) (vI j :: vS x :: st) σ = run 148 880 (ls) (vI (sx σ j.toNat) :: st) σ := (run_eq 148 879 _ _ σ).trans (if_pos h)
set_option maxRecDepth 20000 in
theorem e148_880 (l st : List AV) (σ : St) (x : Nat) : run 148 880 (vS x :: l) (st) σ = run 148 881 (vS x :: l) (vS x :: st) σ := (run_eq 148 880 _ _ σ).trans rfl
set_option maxRecDepth 20000 in
theorem e148_881 (a0 a1 a2 : AV) (l st : List AV) (σ : St) (x : Int) : run 148 881 (a0 :: a1 :: a2 :: vI x :: l) (st) σ = run 148 882 (a0 :: a1 :: a2 :: vI x :: l) (vI x :: st) σ := (run_eq 148 881 _ _ σ).trans rfl
set_option maxRecDepth 20000 in
theorem e148_882 (ls st : List AV) (σ : St) : run 148 882 (ls) (st) σ = run 148 883 (ls) (vI 2 :: st) σ := (run_eq 148 882 _ _ σ).trans rfl
set_option maxRecDepth 20000 in
theorem e148_883 (ls st : List AV) (σ : St) (y x : Int) : run 148 883 (ls) (vI y :: vI x :: st) σ = run 148 884 (ls) (vI (wr (x + y)) :: st) σ := (run_eq 148 883 _ _ σ).trans rfl
set_option maxRecDepth 20000 in
theorem e148_884 (ls st : List AV) (σ : St) (j : Int) (x : Nat) (h : 0 ≤ j ∧ j < (sl σ : Int)) : run 148 884 (ls) (vI j :: vS x :: st) σ = run 148 885 (ls) (vI (sx σ j.toNat) :: st) σ := (run_eq 148 884 _ _ σ).trans (if_pos h)
set_option maxRecDepth 20000 in
theorem e148_885 (l st : List AV) (σ : St) (x : Nat) : run 148 885 (vS x :: l) (st) σ = run 148 886 (vS x :: l) (vS x :: st) σ := (run_eq 148 885 _ _ σ).trans rfl
set_option maxRecDepth 20000 in
theorem e148_886 (a0 a1 a2 : AV) (l st : List AV) (σ : St) (x : Int) : run 148 886 (a0 :: a1 :: a2 :: vI x :: l) (st) σ = run 148 887 (a0 :: a1 :: a2 :: vI x :: l) (vI x :: st) σ := (run_eq 148 886 _ _ σ).trans rfl
set_option maxRecDepth 20000 in
theorem e148_887 (ls st : List AV) (σ : St) : run 148 887 (ls) (st) σ = run 148 888 (ls) (vI 3 :: st) σ := (run_eq 148 887 _ _ σ).trans rfl
set_option maxRecDepth 20000 in
theorem e148_888 (ls st : List AV) (σ : St) (y x : Int) : run 148 888 (ls) (vI y :: vI x :: st) σ = run 148 889 (ls) (vI (wr (x + y)) :: st) σ := (run_eq 148 888 _ _ σ).trans rfl
set_option maxRecDepth 20000 in
theorem e148_889 (ls st : List AV) (σ : St) (j : Int) (x : Nat) (h : 0 ≤ j ∧ j < (sl σ : Int)) : run 148 889 (ls) (vI j :: vS x :: st) σ = run 148 890 (ls) (vI (sx σ j.toNat) :: st) σ := (run_eq 148 889 _ _ σ).trans (if_pos h)
set_option maxRecDepth 20000 in
theorem e148_890 (l st : List AV) (σ : St) (x : Nat) : run 148 890 (vS x :: l) (st) σ = run 148 891 (vS x :: l) (vS x :: st) σ := (run_eq 148 890 _ _ σ).trans rfl
set_option maxRecDepth 20000 in
theorem e148_891 (a0 a1 a2 : AV) (l st : List AV) (σ : St) (x : Int) : run 148 891 (a0 :: a1 :: a2 :: vI x :: l) (st) σ = run 148 892 (a0 :: a1 :: a2 :: vI x :: l) (vI x :: st) σ := (run_eq 148 891 _ _ σ).trans rfl
set_option maxRecDepth 20000 in
theorem e148_892 (ls st : List AV) (σ : St) : run 148 892 (ls) (st) σ = run 148 893 (ls) (vI 4 :: st) σ := (run_eq 148 892 _ _ σ).trans rfl
set_option maxRecDepth 20000 in
theorem e148_893 (ls st : List AV) (σ : St) (y x : Int) : run 148 893 (ls) (vI y :: vI x :: st) σ = run 148 894 (ls) (vI (wr (x + y)) :: st) σ := (run_eq 148 893 _ _ σ).trans rfl
set_option maxRecDepth 20000 in
theorem e148_894 (ls st : List AV) (σ : St) (j : Int) (x : Nat) (h : 0 ≤ j ∧ j < (sl σ : Int)) : run 148 894 (ls) (vI j :: vS x :: st) σ = run 148 895 (ls) (vI (sx σ j.toNat) :: st) σ := (run_eq 148 894 _ _ σ).trans (if_pos h)
set_option maxRecDepth 20000 in
theorem e148_895 (ls st : List AV) (σ : St) (x0 : Nat) (x1 : Int) (x2 : Int) (x3 : Int) (x4 : Int) (h4 : st.length ≤ 4) (h : fok σ x0 3) : run 148 895 ls (vI x4 :: vI x3 :: vI x2 :: vI x1 :: vR x0 :: st) σ = bnd (run 141 0 [vR x0, vI x1, vI x2, vI x3, vI x4, vU, vU, vU, vU, vU, vU, vU, vU, vU, vU] [] σ) (fun r σ => run 148 898 ls (psh r st) σ) := (run_eq 148 895 _ _ σ).trans (if_pos ⟨rfl, by simp, by simpa using h4, rfl, h⟩)
set_option maxRecDepth 20000 in
theorem e148_898 (ls st : List AV) (σ : St) (y x : Int) : run 148 898 (ls) (vL y :: vL x :: st) σ = run 148 899 (ls) (vI (lCmp x y) :: st) σ := (run_eq 148 898 _ _ σ).trans rfl
set_option maxRecDepth 20000 in
theorem e148_899 (ls st : List AV) (σ : St) (x : Int) : run 148 899 (ls) (vI x :: st) σ = if x = 0 then run 148 1016 (ls) (st) σ else run 148 902 (ls) (st) σ := (run_eq 148 899 _ _ σ).trans rfl
set_option maxRecDepth 20000 in
theorem e148_902 (ls st : List AV) (σ : St) : run 148 902 (ls) (st) σ = run 148 903 (ls) (vI 0 :: st) σ := (run_eq 148 902 _ _ σ).trans rfl
set_option maxRecDepth 20000 in
theorem e148_903 (ls : List AV) (σ : St) (x : Int) (h : x = 0 ∨ x = 1) : run 148 903 ls [vI x] σ = some (vI x, σ) := (run_eq 148 903 _ _ σ).trans (if_pos h)
set_option maxRecDepth 20000 in
theorem e148_904 (a0 : AV) (l st : List AV) (σ : St) (x : Nat) : run 148 904 (a0 :: vR x :: l) (st) σ = run 148 905 (a0 :: vR x :: l) (vR x :: st) σ := (run_eq 148 904 _ _ σ).trans rfl
set_option maxRecDepth 20000 in
theorem e148_905 (l st : List AV) (σ : St) (x : Nat) : run 148 905 (vS x :: l) (st) σ = run 148 906 (vS x :: l) (vS x :: st) σ := (run_eq 148 905 _ _ σ).trans rfl
set_option maxRecDepth 20000 in
theorem e148_906 (a0 a1 a2 : AV) (l st : List AV) (σ : St) (x : Int) : run 148 906 (a0 :: a1 :: a2 :: vI x :: l) (st) σ = run 148 907 (a0 :: a1 :: a2 :: vI x :: l) (vI x :: st) σ := (run_eq 148 906 _ _ σ).trans rfl
set_option maxRecDepth 20000 in
theorem e148_907 (ls st : List AV) (σ : St) : run 148 907 (ls) (st) σ = run 148 908 (ls) (vI 1 :: st) σ := (run_eq 148 907 _ _ σ).trans rfl
set_option maxRecDepth 20000 in
theorem e148_908 (ls st : List AV) (σ : St) (y x : Int) : run 148 908 (ls) (vI y :: vI x :: st) σ = run 148 909 (ls) (vI (wr (x + y)) :: st) σ := (run_eq 148 908 _ _ σ).trans rfl
set_option maxRecDepth 20000 in
theorem e148_909 (ls st : List AV) (σ : St) (j : Int) (x : Nat) (h : 0 ≤ j ∧ j < (sl σ : Int)) : run 148 909 (ls) (vI j :: vS x :: st) σ = run 148 910 (ls) (vI (sx σ j.toNat) :: st) σ := (run_eq 148 909 _ _ σ).trans (if_pos h)
set_option maxRecDepth 20000 in
theorem e148_910 (l st : List AV) (σ : St) (x : Nat) : run 148 910 (vS x :: l) (st) σ = run 148 911 (vS x :: l) (vS x :: st) σ := (run_eq 148 910 _ _ σ).trans rfl
set_option maxRecDepth 20000 in
theorem e148_911 (a0 a1 a2 : AV) (l st : List AV) (σ : St) (x : Int) : run 148 911 (a0 :: a1 :: a2 :: vI x :: l) (st) σ = run 148 912 (a0 :: a1 :: a2 :: vI x :: l) (vI x :: st) σ := (run_eq 148 911 _ _ σ).trans rfl
set_option maxRecDepth 20000 in
theorem e148_912 (ls st : List AV) (σ : St) : run 148 912 (ls) (st) σ = run 148 913 (ls) (vI 2 :: st) σ := (run_eq 148 912 _ _ σ).trans rfl
set_option maxRecDepth 20000 in
theorem e148_913 (ls st : List AV) (σ : St) (y x : Int) : run 148 913 (ls) (vI y :: vI x :: st) σ = run 148 914 (ls) (vI (wr (x + y)) :: st) σ := (run_eq 148 913 _ _ σ).trans rfl
set_option maxRecDepth 20000 in
theorem e148_914 (ls st : List AV) (σ : St) (j : Int) (x : Nat) (h : 0 ≤ j ∧ j < (sl σ : Int)) : run 148 914 (ls) (vI j :: vS x :: st) σ = run 148 915 (ls) (vI (sx σ j.toNat) :: st) σ := (run_eq 148 914 _ _ σ).trans (if_pos h)
set_option maxRecDepth 20000 in
theorem e148_915 (l st : List AV) (σ : St) (x : Nat) : run 148 915 (vS x :: l) (st) σ = run 148 916 (vS x :: l) (vS x :: st) σ := (run_eq 148 915 _ _ σ).trans rfl
set_option maxRecDepth 20000 in
theorem e148_916 (a0 a1 a2 : AV) (l st : List AV) (σ : St) (x : Int) : run 148 916 (a0 :: a1 :: a2 :: vI x :: l) (st) σ = run 148 917 (a0 :: a1 :: a2 :: vI x :: l) (vI x :: st) σ := (run_eq 148 916 _ _ σ).trans rfl
set_option maxRecDepth 20000 in
theorem e148_917 (ls st : List AV) (σ : St) : run 148 917 (ls) (st) σ = run 148 918 (ls) (vI 3 :: st) σ := (run_eq 148 917 _ _ σ).trans rfl
set_option maxRecDepth 20000 in
theorem e148_918 (ls st : List AV) (σ : St) (y x : Int) : run 148 918 (ls) (vI y :: vI x :: st) σ = run 148 919 (ls) (vI (wr (x + y)) :: st) σ := (run_eq 148 918 _ _ σ).trans rfl
set_option maxRecDepth 20000 in
theorem e148_919 (ls st : List AV) (σ : St) (j : Int) (x : Nat) (h : 0 ≤ j ∧ j < (sl σ : Int)) : run 148 919 (ls) (vI j :: vS x :: st) σ = run 148 920 (ls) (vI (sx σ j.toNat) :: st) σ := (run_eq 148 919 _ _ σ).trans (if_pos h)
set_option maxRecDepth 20000 in
theorem e148_920 (ls st : List AV) (σ : St) (x0 : Nat) (x1 : Int) (x2 : Int) (x3 : Int) (h4 : st.length ≤ 4) (h : fok σ x0 2) : run 148 920 ls (vI x3 :: vI x2 :: vI x1 :: vR x0 :: st) σ = bnd (run 82 0 [vR x0, vI x1, vI x2, vI x3, vU, vU, vU, vU] [] σ) (fun r σ => run 148 923 ls (psh r st) σ) := (run_eq 148 920 _ _ σ).trans (if_pos ⟨rfl, by simp, by simpa using h4, rfl, h⟩)
set_option maxRecDepth 20000 in
theorem e148_923 (a0 a1 : AV) (l st : List AV) (σ : St) (x : Nat) : run 148 923 (a0 :: a1 :: vR x :: l) (st) σ = run 148 924 (a0 :: a1 :: vR x :: l) (vR x :: st) σ := (run_eq 148 923 _ _ σ).trans rfl
set_option maxRecDepth 20000 in
theorem e148_924 (l st : List AV) (σ : St) (x : Nat) : run 148 924 (vS x :: l) (st) σ = run 148 925 (vS x :: l) (vS x :: st) σ := (run_eq 148 924 _ _ σ).trans rfl
set_option maxRecDepth 20000 in
theorem e148_925 (a0 a1 a2 : AV) (l st : List AV) (σ : St) (x : Int) : run 148 925 (a0 :: a1 :: a2 :: vI x :: l) (st) σ = run 148 926 (a0 :: a1 :: a2 :: vI x :: l) (vI x :: st) σ := (run_eq 148 925 _ _ σ).trans rfl
set_option maxRecDepth 20000 in
theorem e148_926 (ls st : List AV) (σ : St) : run 148 926 (ls) (st) σ = run 148 927 (ls) (vI 1 :: st) σ := (run_eq 148 926 _ _ σ).trans rfl
set_option maxRecDepth 20000 in
theorem e148_927 (ls st : List AV) (σ : St) (y x : Int) : run 148 927 (ls) (vI y :: vI x :: st) σ = run 148 928 (ls) (vI (wr (x + y)) :: st) σ := (run_eq 148 927 _ _ σ).trans rfl
set_option maxRecDepth 20000 in
theorem e148_928 (ls st : List AV) (σ : St) (j : Int) (x : Nat) (h : 0 ≤ j ∧ j < (sl σ : Int)) : run 148 928 (ls) (vI j :: vS x :: st) σ = run 148 929 (ls) (vI (sx σ j.toNat) :: st) σ := (run_eq 148 928 _ _ σ).trans (if_pos h)
set_option maxRecDepth 20000 in
theorem e148_929 (l st : List AV) (σ : St) (x : Nat) : run 148 929 (vS x :: l) (st) σ = run 148 930 (vS x :: l) (vS x :: st) σ := (run_eq 148 929 _ _ σ).trans rfl
set_option maxRecDepth 20000 in
theorem e148_930 (a0 a1 a2 : AV) (l st : List AV) (σ : St) (x : Int) : run 148 930 (a0 :: a1 :: a2 :: vI x :: l) (st) σ = run 148 931 (a0 :: a1 :: a2 :: vI x :: l) (vI x :: st) σ := (run_eq 148 930 _ _ σ).trans rfl
set_option maxRecDepth 20000 in
theorem e148_931 (ls st : List AV) (σ : St) : run 148 931 (ls) (st) σ = run 148 932 (ls) (vI 2 :: st) σ := (run_eq 148 931 _ _ σ).trans rfl
set_option maxRecDepth 20000 in
theorem e148_932 (ls st : List AV) (σ : St) (y x : Int) : run 148 932 (ls) (vI y :: vI x :: st) σ = run 148 933 (ls) (vI (wr (x + y)) :: st) σ := (run_eq 148 932 _ _ σ).trans rfl
set_option maxRecDepth 20000 in
theorem e148_933 (ls st : List AV) (σ : St) (j : Int) (x : Nat) (h : 0 ≤ j ∧ j < (sl σ : Int)) : run 148 933 (ls) (vI j :: vS x :: st) σ = run 148 934 (ls) (vI (sx σ j.toNat) :: st) σ := (run_eq 148 933 _ _ σ).trans (if_pos h)
set_option maxRecDepth 20000 in
theorem e148_934 (l st : List AV) (σ : St) (x : Nat) : run 148 934 (vS x :: l) (st) σ = run 148 935 (vS x :: l) (vS x :: st) σ := (run_eq 148 934 _ _ σ).trans rfl
set_option maxRecDepth 20000 in
theorem e148_935 (a0 a1 a2 : AV) (l st : List AV) (σ : St) (x : Int) : run 148 935 (a0 :: a1 :: a2 :: vI x :: l) (st) σ = run 148 936 (a0 :: a1 :: a2 :: vI x :: l) (vI x :: st) σ := (run_eq 148 935 _ _ σ).trans rfl
set_option maxRecDepth 20000 in
theorem e148_936 (ls st : List AV) (σ : St) : run 148 936 (ls) (st) σ = run 148 937 (ls) (vI 3 :: st) σ := (run_eq 148 936 _ _ σ).trans rfl
set_option maxRecDepth 20000 in
theorem e148_937 (ls st : List AV) (σ : St) (y x : Int) : run 148 937 (ls) (vI y :: vI x :: st) σ = run 148 938 (ls) (vI (wr (x + y)) :: st) σ := (run_eq 148 937 _ _ σ).trans rfl
set_option maxRecDepth 20000 in
theorem e148_938 (ls st : List AV) (σ : St) (j : Int) (x : Nat) (h : 0 ≤ j ∧ j < (sl σ : Int)) : run 148 938 (ls) (vI j :: vS x :: st) σ = run 148 939 (ls) (vI (sx σ j.toNat) :: st) σ := (run_eq 148 938 _ _ σ).trans (if_pos h)
set_option maxRecDepth 20000 in
theorem e148_939 (ls st : List AV) (σ : St) (x0 : Nat) (x1 : Int) (x2 : Int) (x3 : Int) (h4 : st.length ≤ 4) (h : fok σ x0 3) : run 148 939 ls (vI x3 :: vI x2 :: vI x1 :: vR x0 :: st) σ = bnd (run 142 0 [vR x0, vI x1, vI x2, vI x3, vU, vU, vU, vU, vU, vU] [] σ) (fun r σ => run 148 942 ls (psh r st) σ) := (run_eq 148 939 _ _ σ).trans (if_pos ⟨rfl, by simp, by simpa using h4, rfl, h⟩)
set_option maxRecDepth 20000 in
theorem e148_942 (ls st : List AV) (σ : St) (y x : Int) : run 148 942 (ls) (vI y :: vI x :: st) σ = if x = y then run 148 1016 (ls) (st) σ else run 148 945 (ls) (st) σ := (run_eq 148 942 _ _ σ).trans rfl
set_option maxRecDepth 20000 in
theorem e148_945 (ls st : List AV) (σ : St) : run 148 945 (ls) (st) σ = run 148 946 (ls) (vI 0 :: st) σ := (run_eq 148 945 _ _ σ).trans rfl
set_option maxRecDepth 20000 in
theorem e148_946 (ls : List AV) (σ : St) (x : Int) (h : x = 0 ∨ x = 1) : run 148 946 ls [vI x] σ = some (vI x, σ) := (run_eq 148 946 _ _ σ).trans (if_pos h)
set_option maxRecDepth 20000 in
theorem e148_947 (a0 : AV) (l st : List AV) (σ : St) (x : Nat) : run 148 947 (a0 :: vR x :: l) (st) σ = run 148 948 (a0 :: vR x :: l) (vR x :: st) σ := (run_eq 148 947 _ _ σ).trans rfl
set_option maxRecDepth 20000 in
theorem e148_948 (l st : List AV) (σ : St) (x : Nat) : run 148 948 (vS x :: l) (st) σ = run 148 949 (vS x :: l) (vS x :: st) σ := (run_eq 148 948 _ _ σ).trans rfl
set_option maxRecDepth 20000 in
theorem e148_949 (a0 a1 a2 : AV) (l st : List AV) (σ : St) (x : Int) : run 148 949 (a0 :: a1 :: a2 :: vI x :: l) (st) σ = run 148 950 (a0 :: a1 :: a2 :: vI x :: l) (vI x :: st) σ := (run_eq 148 949 _ _ σ).trans rfl
set_option maxRecDepth 20000 in
theorem e148_950 (ls st : List AV) (σ : St) : run 148 950 (ls) (st) σ = run 148 951 (ls) (vI 1 :: st) σ := (run_eq 148 950 _ _ σ).trans rfl
set_option maxRecDepth 20000 in
theorem e148_951 (ls st : List AV) (σ : St) (y x : Int) : run 148 951 (ls) (vI y :: vI x :: st) σ = run 148 952 (ls) (vI (wr (x + y)) :: st) σ := (run_eq 148 951 _ _ σ).trans rfl
set_option maxRecDepth 20000 in
theorem e148_952 (ls st : List AV) (σ : St) (j : Int) (x : Nat) (h : 0 ≤ j ∧ j < (sl σ : Int)) : run 148 952 (ls) (vI j :: vS x :: st) σ = run 148 953 (ls) (vI (sx σ j.toNat) :: st) σ := (run_eq 148 952 _ _ σ).trans (if_pos h)
set_option maxRecDepth 20000 in
theorem e148_953 (ls st : List AV) (σ : St) (x0 : Nat) (x1 : Int) (h4 : st.length ≤ 4) (h : fok σ x0 2) : run 148 953 ls (vI x1 :: vR x0 :: st) σ = bnd (run 86 0 [vR x0, vI x1, vU] [] σ) (fun r σ => run 148 956 ls (psh r st) σ) := (run_eq 148 953 _ _ σ).trans (if_pos ⟨rfl, by simp, by simpa using h4, rfl, h⟩)
set_option maxRecDepth 20000 in
theorem e148_956 (a0 a1 : AV) (l st : List AV) (σ : St) (x : Nat) : run 148 956 (a0 :: a1 :: vR x :: l) (st) σ = run 148 957 (a0 :: a1 :: vR x :: l) (vR x :: st) σ := (run_eq 148 956 _ _ σ).trans rfl
set_option maxRecDepth 20000 in
theorem e148_957 (l st : List AV) (σ : St) (x : Nat) : run 148 957 (vS x :: l) (st) σ = run 148 958 (vS x :: l) (vS x :: st) σ := (run_eq 148 957 _ _ σ).trans rfl
set_option maxRecDepth 20000 in
theorem e148_958 (a0 a1 a2 : AV) (l st : List AV) (σ : St) (x : Int) : run 148 958 (a0 :: a1 :: a2 :: vI x :: l) (st) σ = run 148 959 (a0 :: a1 :: a2 :: vI x :: l) (vI x :: st) σ := (run_eq 148 958 _ _ σ).trans rfl
set_option maxRecDepth 20000 in
theorem e148_959 (ls st : List AV) (σ : St) : run 148 959 (ls) (st) σ = run 148 960 (ls) (vI 1 :: st) σ := (run_eq 148 959 _ _ σ).trans rfl
set_option maxRecDepth 20000 in
theorem e148_960 (ls st : List AV) (σ : St) (y x : Int) : run 148 960 (ls) (vI y :: vI x :: st) σ = run 148 961 (ls) (vI (wr (x + y)) :: st) σ := (run_eq 148 960 _ _ σ).trans rfl
set_option maxRecDepth 20000 in
theorem e148_961 (ls st : List AV) (σ : St) (j : Int) (x : Nat) (h : 0 ≤ j ∧ j < (sl σ : Int)) : run 148 961 (ls) (vI j :: vS x :: st) σ = run 148 962 (ls) (vI (sx σ j.toNat) :: st) σ := (run_eq 148 961 _ _ σ).trans (if_pos h)
set_option maxRecDepth 20000 in
theorem e148_962 (ls st : List AV) (σ : St) (x0 : Nat) (x1 : Int) (h4 : st.length ≤ 4) (h : fok σ x0 3) : run 148 962 ls (vI x1 :: vR x0 :: st) σ = bnd (run 145 0 [vR x0, vI x1, vU, vU] [] σ) (fun r σ => run 148 965 ls (psh r st) σ) := (run_eq 148 962 _ _ σ).trans (if_pos ⟨rfl, by simp, by simpa using h4, rfl, h⟩)
set_option maxRecDepth 20000 in
theorem e148_965 (ls st : List AV) (σ : St) (y x : Int) : run 148 965 (ls) (vI y :: vI x :: st) σ = if x = y then run 148 1016 (ls) (st) σ else run 148 968 (ls) (st) σ := (run_eq 148 965 _ _ σ).trans rfl
set_option maxRecDepth 20000 in
theorem e148_968 (ls st : List AV) (σ : St) : run 148 968 (ls) (st) σ = run 148 969 (ls) (vI 0 :: st) σ := (run_eq 148 968 _ _ σ).trans rfl
set_option maxRecDepth 20000 in
theorem e148_969 (ls : List AV) (σ : St) (x : Int) (h : x = 0 ∨ x = 1) : run 148 969 ls [vI x] σ = some (vI x, σ) := (run_eq 148 969 _ _ σ).trans (if_pos h)
set_option maxRecDepth 20000 in
theorem e148_970 (a0 : AV) (l st : List AV) (σ : St) (x : Nat) : run 148 970 (a0 :: vR x :: l) (st) σ = run 148 971 (a0 :: vR x :: l) (vR x :: st) σ := (run_eq 148 970 _ _ σ).trans rfl
set_option maxRecDepth 20000 in
theorem e148_971 (l st : List AV) (σ : St) (x : Nat) : run 148 971 (vS x :: l) (st) σ = run 148 972 (vS x :: l) (vS x :: st) σ := (run_eq 148 971 _ _ σ).trans rfl
set_option maxRecDepth 20000 in
theorem e148_972 (a0 a1 a2 : AV) (l st : List AV) (σ : St) (x : Int) : run 148 972 (a0 :: a1 :: a2 :: vI x :: l) (st) σ = run 148 973 (a0 :: a1 :: a2 :: vI x :: l) (vI x :: st) σ := (run_eq 148 972 _ _ σ).trans rfl
set_option maxRecDepth 20000 in
theorem e148_973 (ls st : List AV) (σ : St) : run 148 973 (ls) (st) σ = run 148 974 (ls) (vI 1 :: st) σ := (run_eq 148 973 _ _ σ).trans rfl
set_option maxRecDepth 20000 in
theorem e148_974 (ls st : List AV) (σ : St) (y x : Int) : run 148 974 (ls) (vI y :: vI x :: st) σ = run 148 975 (ls) (vI (wr (x + y)) :: st) σ := (run_eq 148 974 _ _ σ).trans rfl
set_option maxRecDepth 20000 in
theorem e148_975 (ls st : List AV) (σ : St) (j : Int) (x : Nat) (h : 0 ≤ j ∧ j < (sl σ : Int)) : run 148 975 (ls) (vI j :: vS x :: st) σ = run 148 976 (ls) (vI (sx σ j.toNat) :: st) σ := (run_eq 148 975 _ _ σ).trans (if_pos h)
set_option maxRecDepth 20000 in
theorem e148_976 (ls st : List AV) (σ : St) (x0 : Nat) (x1 : Int) (h4 : st.length ≤ 4) (h : fok σ x0 2) : run 148 976 ls (vI x1 :: vR x0 :: st) σ = bnd (run 87 0 [vR x0, vI x1, vU] [] σ) (fun r σ => run 148 979 ls (psh r st) σ) := (run_eq 148 976 _ _ σ).trans (if_pos ⟨rfl, by simp, by simpa using h4, rfl, h⟩)
set_option maxRecDepth 20000 in
theorem e148_979 (a0 a1 : AV) (l st : List AV) (σ : St) (x : Nat) : run 148 979 (a0 :: a1 :: vR x :: l) (st) σ = run 148 980 (a0 :: a1 :: vR x :: l) (vR x :: st) σ := (run_eq 148 979 _ _ σ).trans rfl
set_option maxRecDepth 20000 in
theorem e148_980 (l st : List AV) (σ : St) (x : Nat) : run 148 980 (vS x :: l) (st) σ = run 148 981 (vS x :: l) (vS x :: st) σ := (run_eq 148 980 _ _ σ).trans rfl
set_option maxRecDepth 20000 in
theorem e148_981 (a0 a1 a2 : AV) (l st : List AV) (σ : St) (x : Int) : run 148 981 (a0 :: a1 :: a2 :: vI x :: l) (st) σ = run 148 982 (a0 :: a1 :: a2 :: vI x :: l) (vI x :: st) σ := (run_eq 148 981 _ _ σ).trans rfl
set_option maxRecDepth 20000 in
theorem e148_982 (ls st : List AV) (σ : St) : run 148 982 (ls) (st) σ = run 148 983 (ls) (vI 1 :: st) σ := (run_eq 148 982 _ _ σ).trans rfl
set_option maxRecDepth 20000 in
theorem e148_983 (ls st : List AV) (σ : St) (y x : Int) : run 148 983 (ls) (vI y :: vI x :: st) σ = run 148 984 (ls) (vI (wr (x + y)) :: st) σ := (run_eq 148 983 _ _ σ).trans rfl
set_option maxRecDepth 20000 in
theorem e148_984 (ls st : List AV) (σ : St) (j : Int) (x : Nat) (h : 0 ≤ j ∧ j < (sl σ : Int)) : run 148 984 (ls) (vI j :: vS x :: st) σ = run 148 985 (ls) (vI (sx σ j.toNat) :: st) σ := (run_eq 148 984 _ _ σ).trans (if_pos h)
set_option maxRecDepth 20000 in
theorem e148_985 (ls st : List AV) (σ : St) (x0 : Nat) (x1 : Int) (h4 : st.length ≤ 4) (h : fok σ x0 3) : run 148 985 ls (vI x1 :: vR x0 :: st) σ = bnd (run 146 0 [vR x0, vI x1, vU, vU] [] σ) (fun r σ => run 148 988 ls (psh r st) σ) := (run_eq 148 985 _ _ σ).trans (if_pos ⟨rfl, by simp, by simpa using h4, rfl, h⟩)
set_option maxRecDepth 20000 in
theorem e148_988 (ls st : List AV) (σ : St) (y x : Int) : run 148 988 (ls) (vI y :: vI x :: st) σ = if x = y then run 148 1016 (ls) (st) σ else run 148 991 (ls) (st) σ := (run_eq 148 988 _ _ σ).trans rfl
set_option maxRecDepth 20000 in
theorem e148_991 (ls st : List AV) (σ : St) : run 148 991 (ls) (st) σ = run 148 992 (ls) (vI 0 :: st) σ := (run_eq 148 991 _ _ σ).trans rfl
set_option maxRecDepth 20000 in
theorem e148_992 (ls : List AV) (σ : St) (x : Int) (h : x = 0 ∨ x = 1) : run 148 992 ls [vI x] σ = some (vI x, σ) := (run_eq 148 992 _ _ σ).trans (if_pos h)
set_option maxRecDepth 20000 in
theorem e148_993 (a0 : AV) (l st : List AV) (σ : St) (x : Nat) : run 148 993 (a0 :: vR x :: l) (st) σ = run 148 994 (a0 :: vR x :: l) (vR x :: st) σ := (run_eq 148 993 _ _ σ).trans rfl
set_option maxRecDepth 20000 in
theorem e148_994 (l st : List AV) (σ : St) (x : Nat) : run 148 994 (vS x :: l) (st) σ = run 148 995 (vS x :: l) (vS x :: st) σ := (run_eq 148 994 _ _ σ).trans rfl
set_option maxRecDepth 20000 in
theorem e148_995 (a0 a1 a2 : AV) (l st : List AV) (σ : St) (x : Int) : run 148 995 (a0 :: a1 :: a2 :: vI x :: l) (st) σ = run 148 996 (a0 :: a1 :: a2 :: vI x :: l) (vI x :: st) σ := (run_eq 148 995 _ _ σ).trans rfl
set_option maxRecDepth 20000 in
theorem e148_996 (ls st : List AV) (σ : St) : run 148 996 (ls) (st) σ = run 148 997 (ls) (vI 1 :: st) σ := (run_eq 148 996 _ _ σ).trans rfl
set_option maxRecDepth 20000 in
theorem e148_997 (ls st : List AV) (σ : St) (y x : Int) : run 148 997 (ls) (vI y :: vI x :: st) σ = run 148 998 (ls) (vI (wr (x + y)) :: st) σ := (run_eq 148 997 _ _ σ).trans rfl
set_option maxRecDepth 20000 in
theorem e148_998 (ls st : List AV) (σ : St) (j : Int) (x : Nat) (h : 0 ≤ j ∧ j < (sl σ : Int)) : run 148 998 (ls) (vI j :: vS x :: st) σ = run 148 999 (ls) (vI (sx σ j.toNat) :: st) σ := (run_eq 148 998 _ _ σ).trans (if_pos h)
set_option maxRecDepth 20000 in
theorem e148_999 (ls st : List AV) (σ : St) (x0 : Nat) (x1 : Int) (h4 : st.length ≤ 4) (h : fok σ x0 2) : run 148 999 ls (vI x1 :: vR x0 :: st) σ = bnd (run 88 0 [vR x0, vI x1, vU, vU] [] σ) (fun r σ => run 148 1002 ls (psh r st) σ) := (run_eq 148 999 _ _ σ).trans (if_pos ⟨rfl, by simp, by simpa using h4, rfl, h⟩)
set_option maxRecDepth 20000 in
theorem e148_1002 (a0 a1 : AV) (l st : List AV) (σ : St) (x : Nat) : run 148 1002 (a0 :: a1 :: vR x :: l) (st) σ = run 148 1003 (a0 :: a1 :: vR x :: l) (vR x :: st) σ := (run_eq 148 1002 _ _ σ).trans rfl
set_option maxRecDepth 20000 in
theorem e148_1003 (l st : List AV) (σ : St) (x : Nat) : run 148 1003 (vS x :: l) (st) σ = run 148 1004 (vS x :: l) (vS x :: st) σ := (run_eq 148 1003 _ _ σ).trans rfl
set_option maxRecDepth 20000 in
theorem e148_1004 (a0 a1 a2 : AV) (l st : List AV) (σ : St) (x : Int) : run 148 1004 (a0 :: a1 :: a2 :: vI x :: l) (st) σ = run 148 1005 (a0 :: a1 :: a2 :: vI x :: l) (vI x :: st) σ := (run_eq 148 1004 _ _ σ).trans rfl
set_option maxRecDepth 20000 in
theorem e148_1005 (ls st : List AV) (σ : St) : run 148 1005 (ls) (st) σ = run 148 1006 (ls) (vI 1 :: st) σ := (run_eq 148 1005 _ _ σ).trans rfl
set_option maxRecDepth 20000 in
theorem e148_1006 (ls st : List AV) (σ : St) (y x : Int) : run 148 1006 (ls) (vI y :: vI x :: st) σ = run 148 1007 (ls) (vI (wr (x + y)) :: st) σ := (run_eq 148 1006 _ _ σ).trans rfl
set_option maxRecDepth 20000 in
theorem e148_1007 (ls st : List AV) (σ : St) (j : Int) (x : Nat) (h : 0 ≤ j ∧ j < (sl σ : Int)) : run 148 1007 (ls) (vI j :: vS x :: st) σ = run 148 1008 (ls) (vI (sx σ j.toNat) :: st) σ := (run_eq 148 1007 _ _ σ).trans (if_pos h)
set_option maxRecDepth 20000 in
theorem e148_1008 (ls st : List AV) (σ : St) (x0 : Nat) (x1 : Int) (h4 : st.length ≤ 4) (h : fok σ x0 3) : run 148 1008 ls (vI x1 :: vR x0 :: st) σ = bnd (run 147 0 [vR x0, vI x1, vU] [] σ) (fun r σ => run 148 1011 ls (psh r st) σ) := (run_eq 148 1008 _ _ σ).trans (if_pos ⟨rfl, by simp, by simpa using h4, rfl, h⟩)
set_option maxRecDepth 20000 in
theorem e148_1011 (ls st : List AV) (σ : St) (y x : Int) : run 148 1011 (ls) (vI y :: vI x :: st) σ = if x = y then run 148 1016 (ls) (st) σ else run 148 1014 (ls) (st) σ := (run_eq 148 1011 _ _ σ).trans rfl
set_option maxRecDepth 20000 in
theorem e148_1014 (ls st : List AV) (σ : St) : run 148 1014 (ls) (st) σ = run 148 1015 (ls) (vI 0 :: st) σ := (run_eq 148 1014 _ _ σ).trans rfl
set_option maxRecDepth 20000 in
theorem e148_1015 (ls : List AV) (σ : St) (x : Int) (h : x = 0 ∨ x = 1) : run 148 1015 ls [vI x] σ = some (vI x, σ) := (run_eq 148 1015 _ _ σ).trans (if_pos h)
set_option maxRecDepth 20000 in
theorem e148_1016 (a0 a1 a2 : AV) (l st : List AV) (σ : St) (x : Int) : run 148 1016 (a0 :: a1 :: a2 :: vI x :: l) (st) σ = run 148 1019 (a0 :: a1 :: a2 :: vI (wr (x + 5)) :: l) (st) σ := (run_eq 148 1016 _ _ σ).trans rfl
set_option maxRecDepth 20000 in
theorem e148_1019 (ls st : List AV) (σ : St) : run 148 1019 (ls) (st) σ = run 148 18 (ls) (st) σ := (run_eq 148 1019 _ _ σ).trans rfl
set_option maxRecDepth 20000 in
theorem e148_1022 (ls st : List AV) (σ : St) : run 148 1022 (ls) (st) σ = run 148 1023 (ls) (vI 1 :: st) σ := (run_eq 148 1022 _ _ σ).trans rfl
set_option maxRecDepth 20000 in
theorem e148_1023 (ls : List AV) (σ : St) (x : Int) (h : x = 0 ∨ x = 1) : run 148 1023 ls [vI x] σ = some (vI x, σ) := (run_eq 148 1023 _ _ σ).trans (if_pos h)
