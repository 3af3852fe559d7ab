theorem all_cut {α : Type} (p : α → Bool) (n : Nat) (L : List α) (h1 : (L.take n).all p = true) (h2 : (L.drop n).all p = true) : L.all p = true := by
  have h : (L.take n ++ L.drop n).all p = true := by rw [List.all_append, h1, h2]; rfl
  rwa [List.take_append_drop] at h
theorem tok_148 : (tb 148).all (okr 148) = true := by
  have z : ((tb 148).drop 700).all (okr 148) = true := by
    rw [show (tb 148).drop 700 = [] from List.drop_eq_nil_of_le (by decide +kernel)]; rfl
  have z13 : ((tb 148).drop 650).all (okr 148) = true := all_cut _ 50 _ tokl_13 (by rw [List.drop_drop]; exact z)
  have z12 : ((tb 148).drop 600).all (okr 148) = true := all_cut _ 50 _ tokl_12 (by rw [List.drop_drop]; exact z13)
  have z11 : ((tb 148).drop 550).all (okr 148) = true := all_cut _ 50 _ tokl_11 (by rw [List.drop_drop]; exact z12)
  have z10 : ((tb 148).drop 500).all (okr 148) = true := all_cut _ 50 _ tokl_10 (by rw [List.drop_drop]; exact z11)
  have z9 : ((tb 148).drop 450).all (okr 148) = true := all_cut _ 50 _ tokl_9 (by rw [List.drop_drop]; exact z10)
  have z8 : ((tb 148).drop 400).all (okr 148) = true := all_cut _ 50 _ tokl_8 (by rw [List.drop_drop]; exact z9)
  have z7 : ((tb 148).drop 350).all (okr 148) = true := all_cut _ 50 _ tokl_7 (by rw [List.drop_drop]; exact z8)
  have z6 : ((tb 148).drop 300).all (okr 148) = true := all_cut _ 50 _ tokl_6 (by rw [List.drop_drop]; exact z7)
  have z5 : ((tb 148).drop 250).all (okr 148) = true := all_cut _ 50 _ tokl_5 (by rw [List.drop_drop]; exact z6)
  have z4 : ((tb 148).drop 200).all (okr 148) = true := all_cut _ 50 _ tokl_4 (by rw [List.drop_drop]; exact z5)
  have z3 : ((tb 148).drop 150).all (okr 148) = true := all_cut _ 50 _ tokl_3 (by rw [List.drop_drop]; exact z4)
  have z2 : ((tb 148).drop 100).all (okr 148) = true := all_cut _ 50 _ tokl_2 (by rw [List.drop_drop]; exact z3)
  have z1 : ((tb 148).drop 50).all (okr 148) = true := all_cut _ 50 _ tokl_1 (by rw [List.drop_drop]; exact z2)
  have z0 : ((tb 148).drop 0).all (okr 148) = true := all_cut _ 50 _ tokl_0 (by rw [List.drop_drop]; exact z1)
  exact z0
theorem toks : ∀ M : Nat, (tb M).all (okr M) = true := by
  intro M
  by_cases h : M < 149
  · match M, h with
    | 0, _ => exact tok_0
    | 1, _ => exact tok_1
    | 2, _ => exact tok_2
    | 3, _ => exact tok_3
    | 4, _ => exact tok_4
    | 5, _ => exact tok_5
    | 6, _ => exact tok_6
    | 7, _ => exact tok_7
    | 8, _ => exact tok_8
    | 9, _ => exact tok_9
    | 10, _ => exact tok_10
    | 11, _ => exact tok_11
    | 12, _ => exact tok_12
    | 13, _ => exact tok_13
    | 14, _ => exact tok_14
    | 15, _ => exact tok_15
    | 16, _ => exact tok_16
    | 17, _ => exact tok_17
    | 18, _ => exact tok_18
    | 19, _ => exact tok_19
    | 20, _ => exact tok_20
    | 21, _ => exact tok_21
    | 22, _ => exact tok_22
    | 23, _ => exact tok_23
    | 24, _ => exact tok_24
    | 25, _ => exact tok_25
    | 26, _ => exact tok_26
    | 27, _ => exact tok_27
    | 28, _ => exact tok_28
    | 29, _ => exact tok_29
    | 30, _ => exact tok_30
    | 31, _ => exact tok_31
    | 32, _ => exact tok_32
    | 33, _ => exact tok_33
    | 34, _ => exact tok_34
    | 35, _ => exact tok_35
    | 36, _ => exact tok_36
    | 37, _ => exact tok_37
    | 38, _ => exact tok_38
    | 39, _ => exact tok_39
    | 40, _ => exact tok_40
    | 41, _ => exact tok_41
    | 42, _ => exact tok_42
    | 43, _ => exact tok_43
    | 44, _ => exact tok_44
    | 45, _ => exact tok_45
    | 46, _ => exact tok_46
    | 47, _ => exact tok_47
    | 48, _ => exact tok_48
    | 49, _ => exact tok_49
    | 50, _ => exact tok_50
    | 51, _ => exact tok_51
    | 52, _ => exact tok_52
    | 53, _ => exact tok_53
    | 54, _ => exact tok_54
    | 55, _ => exact tok_55
    | 56, _ => exact tok_56
    | 57, _ => exact tok_57
    | 58, _ => exact tok_58
    | 59, _ => exact tok_59
    | 60, _ => exact tok_60
    | 61, _ => exact tok_61
    | 62, _ => exact tok_62
    | 63, _ => exact tok_63
    | 64, _ => exact tok_64
    | 65, _ => exact tok_65
    | 66, _ => exact tok_66
    | 67, _ => exact tok_67
    | 68, _ => exact tok_68
    | 69, _ => exact tok_69
    | 70, _ => exact tok_70
    | 71, _ => exact tok_71
    | 72, _ => exact tok_72
    | 73, _ => exact tok_73
    | 74, _ => exact tok_74
    | 75, _ => exact tok_75
    | 76, _ => exact tok_76
    | 77, _ => exact tok_77
    | 78, _ => exact tok_78
    | 79, _ => exact tok_79
    | 80, _ => exact tok_80
    | 81, _ => exact tok_81
    | 82, _ => exact tok_82
    | 83, _ => exact tok_83
    | 84, _ => exact tok_84
    | 85, _ => exact tok_85
    | 86, _ => exact tok_86
    | 87, _ => exact tok_87
    | 88, _ => exact tok_88
    | 89, _ => exact tok_89
    | 90, _ => exact tok_90
    | 91, _ => exact tok_91
    | 92, _ => exact tok_92
    | 93, _ => exact tok_93
    | 94, _ => exact tok_94
    | 95, _ => exact tok_95
    | 96, _ => exact tok_96
    | 97, _ => exact tok_97
    | 98, _ => exact tok_98
    | 99, _ => exact tok_99
    | 100, _ => exact tok_100
    | 101, _ => exact tok_101
    | 102, _ => exact tok_102
    | 103, _ => exact tok_103
    | 104, _ => exact tok_104
    | 105, _ => exact tok_105
    | 106, _ => exact tok_106
    | 107, _ => exact tok_107
    | 108, _ => exact tok_108
    | 109, _ => exact tok_109
    | 110, _ => exact tok_110
    | 111, _ => exact tok_111
    | 112, _ => exact tok_112
    | 113, _ => exact tok_113
    | 114, _ => exact tok_114
    | 115, _ => exact tok_115
    | 116, _ => exact tok_116
    | 117, _ => exact tok_117
    | 118, _ => exact tok_118
    | 119, _ => exact tok_119
    | 120, _ => exact tok_120
    | 121, _ => exact tok_121
    | 122, _ => exact tok_122
    | 123, _ => exact tok_123
    | 124, _ => exact tok_124
    | 125, _ => exact tok_125
    | 126, _ => exact tok_126
    | 127, _ => exact tok_127
    | 128, _ => exact tok_128
    | 129, _ => exact tok_129
    | 130, _ => exact tok_130
    | 131, _ => exact tok_131
    | 132, _ => exact tok_132
    | 133, _ => exact tok_133
    | 134, _ => exact tok_134
    | 135, _ => exact tok_135
    | 136, _ => exact tok_136
    | 137, _ => exact tok_137
    | 138, _ => exact tok_138
    | 139, _ => exact tok_139
    | 140, _ => exact tok_140
    | 141, _ => exact tok_141
    | 142, _ => exact tok_142
    | 143, _ => exact tok_143
    | 144, _ => exact tok_144
    | 145, _ => exact tok_145
    | 146, _ => exact tok_146
    | 147, _ => exact tok_147
    | 148, _ => exact tok_148
    | n + 149, h => exact absurd h (by omega)
  · have e : tb M = [] := by
      have h1 : tbs.length ≤ M := by have : tbs.length = 149 := by decide +kernel
                                     omega
      unfold tb
      rw [List.getElem?_eq_none h1]
      rfl
    rw [e]
    rfl
theorem cd_spec {M pc : Nat} {e : Ent} (h : cd M pc = e) (hne : e.1 ≠ 99) : ∃ i n, decode (mb M) pc = .ok (i, n) ∧ tr M pc (i, n) = some e := by
  unfold cd at h
  cases hl : (tb M).lookup pc with
  | none => rw [hl] at h; exact absurd (by rw [← h]; rfl) hne
  | some e' =>
    rw [hl] at h
    have he : e' = e := h
    subst he
    have hm : (pc, e') ∈ tb M := by
      have key : ∀ (l : List (Nat × Ent)), l.lookup pc = some e' → (pc, e') ∈ l := by
        intro l
        induction l with
        | nil => intro h; cases h
        | cons q l ih =>
          intro h
          rw [List.lookup_cons] at h
          split at h
          · next hq =>
            have hq' : pc = q.1 := by simpa using hq
            cases h
            rw [hq']
            exact List.mem_cons_self
          · exact List.mem_cons_of_mem _ (ih h)
      exact key _ hl
    have h2 := List.all_eq_true.mp (toks M) _ hm
    unfold okr at h2
    simp only at h2
    split at h2
    · next i hd =>
      split at h2
      · next e2 ht => exact ⟨i.1, i.2, hd, by rw [show (i.1, i.2) = i from rfl, ht, of_decide_eq_true h2]⟩
      · cases h2
    · cases h2
