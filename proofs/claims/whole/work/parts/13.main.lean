theorem pad_len {as : List AV} {n : Nat} (h : as.length ≤ n) : (pad as n).length = n := by unfold pad; rw [List.length_append, List.length_replicate]; omega
set_option maxHeartbeats 8000000 in
/-- A RUN OF THE DATA IS A RUN OF THE MACHINE -/
theorem sim : ∀ (n M pc : Nat) (ls st : List AV) (σ : St) (r : AV) (σ' : St), ls.length = ml M → ex n M pc ls st σ = some (r, σ') → simAt M pc ls st σ r σ' := by
  intro n
  induction n with
  | zero => intro M pc ls st σ r σ' hlen h; cases h
  | succ n ih =>
    intro M pc ls st σ r σ' hlen h
    have h : stp (ex n) (cd M pc) M ls st σ = some (r, σ') := h
    have hne : (cd M pc).1 ≠ 99 := by
      generalize cd M pc = e at h
      obtain ⟨op, a, b, nx, ts⟩ := e
      intro q
      cases q
      cases h
    obtain ⟨i, len, hd, ht⟩ := cd_spec (M := M) (pc := pc) rfl hne
    clear hne
    have hg : grow σ σ' := stp_grow (ex_grow n) _ _ _ _ _ _ h
    generalize cd M pc = e at h ht
    unfold tr at ht
    split at ht
    · next z heq =>
      cases heq
      split at ht
      · next hc =>
        cases ht
        rw [stp_0] at h
        exact s_iconst hc hd (ih _ _ _ _ _ _ _ hlen h)
      · cases ht
    · next z heq =>
      cases heq
      split at ht
      · next hc =>
        cases ht
        rw [stp_0] at h
        exact s_bipush hc hd (ih _ _ _ _ _ _ _ hlen h)
      · cases ht
    · next z heq =>
      cases heq
      split at ht
      · next hc =>
        cases ht
        rw [stp_0] at h
        exact s_sipush hc hd (ih _ _ _ _ _ _ _ hlen h)
      · cases ht
    · next j heq =>
      cases heq
      obtain ⟨v, hv, rfl⟩ := Option.map_eq_some_iff.mp ht
      rw [stp_0] at h
      exact s_ldc hv hd (ih _ _ _ _ _ _ _ hlen h)
    · next j heq =>
      cases heq
      obtain ⟨v, hv, rfl⟩ := Option.map_eq_some_iff.mp ht
      rw [stp_0] at h
      exact s_ldcw hv hd (ih _ _ _ _ _ _ _ hlen h)
    · next j heq =>
      cases heq
      obtain ⟨v, hv, rfl⟩ := Option.map_eq_some_iff.mp ht
      rw [stp_7] at h
      exact s_ldc2 hv hd (ih _ _ _ _ _ _ _ hlen h)
    · next z heq =>
      cases heq
      cases ht
      rw [stp_7] at h
      exact s_lconst hd (ih _ _ _ _ _ _ _ hlen h)
    · next j heq =>
      cases heq
      cases ht
      rw [stp_1] at h
      split at h
      · next z q hq =>
        exact s_iload hq hd (by first | exact ih _ _ _ _ _ _ _ hlen h | (have h2 := ih _ _ _ _ _ _ _ hlen h; rw [hq] at h2; exact h2))
      · cases h
    · next j heq =>
      cases heq
      cases ht
      rw [stp_1] at h
      split at h
      · next z q hq =>
        exact s_iload_n hq hd (by first | exact ih _ _ _ _ _ _ _ hlen h | (have h2 := ih _ _ _ _ _ _ _ hlen h; rw [hq] at h2; exact h2))
      · cases h
    · next j heq =>
      cases heq
      split at ht
      · next hc =>
        cases ht
        rw [stp_2] at h
        split at h
        · next z q st2 =>
          exact s_istore hc hd (ih _ _ _ _ _ _ _ (by rw [List.length_set]; exact hlen) h)
        · cases h
      · cases ht
    · next j heq =>
      cases heq
      split at ht
      · next hc =>
        cases ht
        rw [stp_2] at h
        split at h
        · next z q st2 =>
          exact s_istore_n hc hd (ih _ _ _ _ _ _ _ (by rw [List.length_set]; exact hlen) h)
        · cases h
      · cases ht
    · next j heq =>
      cases heq
      cases ht
      rw [stp_3] at h
      split at h
      · next z q hq =>
        exact s_aload hq hd (by first | exact ih _ _ _ _ _ _ _ hlen h | (have h2 := ih _ _ _ _ _ _ _ hlen h; rw [hq] at h2; exact h2))
      · next z q hq =>
        exact s_aloadS hq hd (by first | exact ih _ _ _ _ _ _ _ hlen h | (have h2 := ih _ _ _ _ _ _ _ hlen h; rw [hq] at h2; exact h2))
      · cases h
    · next j heq =>
      cases heq
      cases ht
      rw [stp_3] at h
      split at h
      · next z q hq =>
        exact s_aload_n hq hd (by first | exact ih _ _ _ _ _ _ _ hlen h | (have h2 := ih _ _ _ _ _ _ _ hlen h; rw [hq] at h2; exact h2))
      · next z q hq =>
        exact s_aloadS_n hq hd (by first | exact ih _ _ _ _ _ _ _ hlen h | (have h2 := ih _ _ _ _ _ _ _ hlen h; rw [hq] at h2; exact h2))
      · cases h
    · next j heq =>
      cases heq
      split at ht
      · next hc =>
        cases ht
        rw [stp_4] at h
        split at h
        · next z q st2 =>
          exact s_astore hc hd (ih _ _ _ _ _ _ _ (by rw [List.length_set]; exact hlen) h)
        · cases h
      · cases ht
    · next j heq =>
      cases heq
      split at ht
      · next hc =>
        cases ht
        rw [stp_4] at h
        split at h
        · next z q st2 =>
          exact s_astore_n hc hd (ih _ _ _ _ _ _ _ (by rw [List.length_set]; exact hlen) h)
        · cases h
      · cases ht
    · next j heq =>
      cases heq
      cases ht
      rw [stp_5] at h
      split at h
      · next z q hq hq2 =>
        exact s_lload hq hq2 hd (by first | exact ih _ _ _ _ _ _ _ hlen h | (have h2 := ih _ _ _ _ _ _ _ hlen h; rw [hq] at h2; exact h2))
      · cases h
    · next j heq =>
      cases heq
      cases ht
      rw [stp_5] at h
      split at h
      · next z q hq hq2 =>
        exact s_lload_n hq hq2 hd (by first | exact ih _ _ _ _ _ _ _ hlen h | (have h2 := ih _ _ _ _ _ _ _ hlen h; rw [hq] at h2; exact h2))
      · cases h
    · next j heq =>
      cases heq
      split at ht
      · next hc =>
        cases ht
        rw [stp_6] at h
        split at h
        · next z q st2 =>
          exact s_lstore hc hd (ih _ _ _ _ _ _ _ (by rw [List.length_set, List.length_set]; exact hlen) h)
        · cases h
      · cases ht
    · next j heq =>
      cases heq
      split at ht
      · next hc =>
        cases ht
        rw [stp_6] at h
        split at h
        · next z q st2 =>
          exact s_lstore_n hc hd (ih _ _ _ _ _ _ _ (by rw [List.length_set, List.length_set]; exact hlen) h)
        · cases h
      · cases ht
    · next j z heq =>
      cases heq
      split at ht
      · next hc =>
        cases ht
        rw [stp_8] at h
        split at h
        · next x q hq =>
          exact s_iinc hc.1 hc.2 hq hd (ih _ _ _ _ _ _ _ (by rw [List.length_set]; exact hlen) h)
        · cases h
      · cases ht
    · next heq =>
      cases heq
      cases ht
      rw [stp_9] at h
      split at h
      · next z q st2 =>
        exact s_dup0 hd (ih _ _ _ _ _ _ _ hlen h)
      · next z q st2 =>
        exact s_dup1 hd (ih _ _ _ _ _ _ _ hlen h)
      · cases h
    · next heq =>
      cases heq
      cases ht
      rw [stp_10] at h
      split at h
      · next y q x p st2 =>
        exact s_dup2 hd (ih _ _ _ _ _ _ _ hlen h)
      · cases h
    · next heq =>
      cases heq
      cases ht
      rw [stp_11] at h
      split at h
      · next y q1 x q2 st2 =>
        exact s_iadd hd (ih _ _ _ _ _ _ _ hlen h)
      · cases h
    · next heq =>
      cases heq
      cases ht
      rw [stp_12] at h
      split at h
      · next y q1 x q2 st2 =>
        exact s_isub hd (ih _ _ _ _ _ _ _ hlen h)
      · cases h
    · next heq =>
      cases heq
      cases ht
      rw [stp_13] at h
      split at h
      · next y q1 x q2 st2 =>
        exact s_imul hd (ih _ _ _ _ _ _ _ hlen h)
      · cases h
    · next heq =>
      cases heq
      cases ht
      rw [stp_14] at h
      split at h
      · next y q1 x q2 st2 =>
        split at h
        · cases h
        · next hne =>
          exact s_idiv hne hd (ih _ _ _ _ _ _ _ hlen h)
      · cases h
    · next heq =>
      cases heq
      cases ht
      rw [stp_15] at h
      split at h
      · next y q1 x q2 st2 =>
        split at h
        · cases h
        · next hne =>
          exact s_irem hne hd (ih _ _ _ _ _ _ _ hlen h)
      · cases h
    · next heq =>
      cases heq
      cases ht
      rw [stp_16] at h
      split at h
      · next x q st2 =>
        exact s_ineg hd (ih _ _ _ _ _ _ _ hlen h)
      · cases h
    · next heq =>
      cases heq
      cases ht
      rw [stp_17] at h
      split at h
      · next y q1 x q2 st2 =>
        exact s_ishl hd (ih _ _ _ _ _ _ _ hlen h)
      · cases h
    · next heq =>
      cases heq
      cases ht
      rw [stp_18] at h
      split at h
      · next y q1 x q2 st2 =>
        exact s_ishr hd (ih _ _ _ _ _ _ _ hlen h)
      · cases h
    · next heq =>
      cases heq
      cases ht
      rw [stp_19] at h
      split at h
      · next y q1 x q2 st2 =>
        exact s_iushr hd (ih _ _ _ _ _ _ _ hlen h)
      · cases h
    · next heq =>
      cases heq
      cases ht
      rw [stp_20] at h
      split at h
      · next y q1 x q2 st2 =>
        exact s_iand hd (ih _ _ _ _ _ _ _ hlen h)
      · cases h
    · next heq =>
      cases heq
      cases ht
      rw [stp_21] at h
      split at h
      · next y q1 x q2 st2 =>
        exact s_ior hd (ih _ _ _ _ _ _ _ hlen h)
      · cases h
    · next heq =>
      cases heq
      cases ht
      rw [stp_22] at h
      split at h
      · next y q1 x q2 st2 =>
        exact s_ixor hd (ih _ _ _ _ _ _ _ hlen h)
      · cases h
    · next heq =>
      cases heq
      cases ht
      rw [stp_23] at h
      split at h
      · next y q1 x q2 st2 =>
        exact s_ladd hd (ih _ _ _ _ _ _ _ hlen h)
      · cases h
    · next heq =>
      cases heq
      cases ht
      rw [stp_24] at h
      split at h
      · next y q1 x q2 st2 =>
        exact s_lmul hd (ih _ _ _ _ _ _ _ hlen h)
      · cases h
    · next heq =>
      cases heq
      cases ht
      rw [stp_25] at h
      split at h
      · next y q1 x q2 st2 =>
        split at h
        · cases h
        · next hne =>
          exact s_ldiv hne hd (ih _ _ _ _ _ _ _ hlen h)
      · cases h
    · next heq =>
      cases heq
      cases ht
      rw [stp_26] at h
      split at h
      · next y q1 x q2 st2 =>
        split at h
        · cases h
        · next hne =>
          exact s_lrem hne hd (ih _ _ _ _ _ _ _ hlen h)
      · cases h
    · next heq =>
      cases heq
      cases ht
      rw [stp_27] at h
      split at h
      · next y q1 x q2 st2 =>
        exact s_lcmp hd (ih _ _ _ _ _ _ _ hlen h)
      · cases h
    · next heq =>
      cases heq
      cases ht
      rw [stp_28] at h
      split at h
      · next x q st2 =>
        exact s_i2l hd (ih _ _ _ _ _ _ _ hlen h)
      · cases h
    · next off heq =>
      cases heq
      split at ht
      · next hc =>
        cases ht
        rw [stp_30] at h
        split at h
        · next x q st2 =>
          refine s_if_eq hc hd (fun hz => ?_) (fun hz => ?_)
          · rw [if_pos hz] at h
            exact ih _ _ _ _ _ _ _ hlen h
          · rw [if_neg hz] at h
            exact ih _ _ _ _ _ _ _ hlen h
        · cases h
      · cases ht
    · next off heq =>
      cases heq
      split at ht
      · next hc =>
        cases ht
        rw [stp_36] at h
        split at h
        · next y q1 x q2 st2 =>
          refine s_icmp_eq hc hd (fun hz => ?_) (fun hz => ?_)
          · rw [if_pos hz] at h
            exact ih _ _ _ _ _ _ _ hlen h
          · rw [if_neg hz] at h
            exact ih _ _ _ _ _ _ _ hlen h
        · cases h
      · cases ht
    · next off heq =>
      cases heq
      split at ht
      · next hc =>
        cases ht
        rw [stp_31] at h
        split at h
        · next x q st2 =>
          refine s_if_ne hc hd (fun hz => ?_) (fun hz => ?_)
          · rw [if_pos hz] at h
            exact ih _ _ _ _ _ _ _ hlen h
          · rw [if_neg hz] at h
            exact ih _ _ _ _ _ _ _ hlen h
        · cases h
      · cases ht
    · next off heq =>
      cases heq
      split at ht
      · next hc =>
        cases ht
        rw [stp_37] at h
        split at h
        · next y q1 x q2 st2 =>
          refine s_icmp_ne hc hd (fun hz => ?_) (fun hz => ?_)
          · rw [if_pos hz] at h
            exact ih _ _ _ _ _ _ _ hlen h
          · rw [if_neg hz] at h
            exact ih _ _ _ _ _ _ _ hlen h
        · cases h
      · cases ht
    · next off heq =>
      cases heq
      split at ht
      · next hc =>
        cases ht
        rw [stp_32] at h
        split at h
        · next x q st2 =>
          refine s_if_lt hc hd (fun hz => ?_) (fun hz => ?_)
          · rw [if_pos hz] at h
            exact ih _ _ _ _ _ _ _ hlen h
          · rw [if_neg hz] at h
            exact ih _ _ _ _ _ _ _ hlen h
        · cases h
      · cases ht
    · next off heq =>
      cases heq
      split at ht
      · next hc =>
        cases ht
        rw [stp_38] at h
        split at h
        · next y q1 x q2 st2 =>
          refine s_icmp_lt hc hd (fun hz => ?_) (fun hz => ?_)
          · rw [if_pos hz] at h
            exact ih _ _ _ _ _ _ _ hlen h
          · rw [if_neg hz] at h
            exact ih _ _ _ _ _ _ _ hlen h
        · cases h
      · cases ht
    · next off heq =>
      cases heq
      split at ht
      · next hc =>
        cases ht
        rw [stp_33] at h
        split at h
        · next x q st2 =>
          refine s_if_ge hc hd (fun hz => ?_) (fun hz => ?_)
          · rw [if_pos hz] at h
            exact ih _ _ _ _ _ _ _ hlen h
          · rw [if_neg hz] at h
            exact ih _ _ _ _ _ _ _ hlen h
        · cases h
      · cases ht
    · next off heq =>
      cases heq
      split at ht
      · next hc =>
        cases ht
        rw [stp_39] at h
        split at h
        · next y q1 x q2 st2 =>
          refine s_icmp_ge hc hd (fun hz => ?_) (fun hz => ?_)
          · rw [if_pos hz] at h
            exact ih _ _ _ _ _ _ _ hlen h
          · rw [if_neg hz] at h
            exact ih _ _ _ _ _ _ _ hlen h
        · cases h
      · cases ht
    · next off heq =>
      cases heq
      split at ht
      · next hc =>
        cases ht
        rw [stp_34] at h
        split at h
        · next x q st2 =>
          refine s_if_gt hc hd (fun hz => ?_) (fun hz => ?_)
          · rw [if_pos hz] at h
            exact ih _ _ _ _ _ _ _ hlen h
          · rw [if_neg hz] at h
            exact ih _ _ _ _ _ _ _ hlen h
        · cases h
      · cases ht
    · next off heq =>
      cases heq
      split at ht
      · next hc =>
        cases ht
        rw [stp_40] at h
        split at h
        · next y q1 x q2 st2 =>
          refine s_icmp_gt hc hd (fun hz => ?_) (fun hz => ?_)
          · rw [if_pos hz] at h
            exact ih _ _ _ _ _ _ _ hlen h
          · rw [if_neg hz] at h
            exact ih _ _ _ _ _ _ _ hlen h
        · cases h
      · cases ht
    · next off heq =>
      cases heq
      split at ht
      · next hc =>
        cases ht
        rw [stp_35] at h
        split at h
        · next x q st2 =>
          refine s_if_le hc hd (fun hz => ?_) (fun hz => ?_)
          · rw [if_pos hz] at h
            exact ih _ _ _ _ _ _ _ hlen h
          · rw [if_neg hz] at h
            exact ih _ _ _ _ _ _ _ hlen h
        · cases h
      · cases ht
    · next off heq =>
      cases heq
      split at ht
      · next hc =>
        cases ht
        rw [stp_41] at h
        split at h
        · next y q1 x q2 st2 =>
          refine s_icmp_le hc hd (fun hz => ?_) (fun hz => ?_)
          · rw [if_pos hz] at h
            exact ih _ _ _ _ _ _ _ hlen h
          · rw [if_neg hz] at h
            exact ih _ _ _ _ _ _ _ hlen h
        · cases h
      · cases ht
    · next off heq =>
      cases heq
      split at ht
      · next hc =>
        cases ht
        rw [stp_42] at h
        split at h
        · next z q st2 =>
          refine s_ifnull hc hd (fun hz => ?_) (fun hz => ?_)
          · rw [if_pos hz] at h
            exact ih _ _ _ _ _ _ _ hlen h
          · rw [if_neg hz] at h
            exact ih _ _ _ _ _ _ _ hlen h
        · cases h
      · cases ht
    · next off heq =>
      cases heq
      split at ht
      · next hc =>
        cases ht
        rw [stp_43] at h
        split at h
        · next z q st2 =>
          refine s_ifnonnull hc hd (fun hz => ?_) (fun hz => ?_)
          · rw [if_pos hz] at h
            exact ih _ _ _ _ _ _ _ hlen h
          · rw [if_neg hz] at h
            exact ih _ _ _ _ _ _ _ hlen h
        · cases h
      · cases ht
    · next off heq =>
      cases heq
      split at ht
      · next hc =>
        cases ht
        rw [stp_44] at h
        exact s_goto hc hd (ih _ _ _ _ _ _ _ hlen h)
      · cases ht
    · next d lo hi offs len heq =>
      cases heq
      split at ht
      · next hc =>
        cases ht
        rw [stp_45] at h
        split at h
        · next x q st2 =>
          exact s_table hc hd (ih _ _ _ _ _ _ _ hlen h)
        · cases h
      · cases ht
    · next d ps len heq =>
      cases heq
      split at ht
      · next hc =>
        cases ht
        rw [stp_45] at h
        split at h
        · next x q st2 =>
          exact s_lookup hc hd (ih _ _ _ _ _ _ _ hlen h)
        · cases h
      · cases ht
    · next j heq =>
      cases heq
      obtain ⟨⟨k, f⟩, hv, rfl⟩ := Option.map_eq_some_iff.mp ht
      dsimp only at h
      by_cases hr : isr k f = true
      · rw [if_pos hr] at h
        rw [stp_51] at h
        split at h
        · next z q st2 =>
          obtain ⟨h1, h2⟩ := ck_some.mp h
          rw [Int.toNat_natCast] at h1
          exact s_get hv h1 hd (by rw [if_pos hr]; exact ih _ _ _ _ _ _ _ hlen h2)
        · cases h
      · rw [if_neg hr] at h
        rw [stp_50] at h
        split at h
        · next z q st2 =>
          obtain ⟨h1, h2⟩ := ck_some.mp h
          rw [Int.toNat_natCast] at h1
          exact s_get hv h1 hd (by rw [if_neg hr]; exact ih _ _ _ _ _ _ _ hlen h2)
        · cases h
    · next j heq =>
      cases heq
      obtain ⟨⟨k, f⟩, hv, ht⟩ := Option.bind_eq_some_iff.mp ht
      dsimp only at ht
      split at ht
      · next hfin =>
        cases ht
        by_cases hr : isr k f = true
        · rw [if_pos hr] at h
          rw [stp_53] at h
          split at h
          · next z2 w z q st2 hq2 =>
            try subst hq2
            obtain ⟨⟨h1, h3⟩, h2⟩ := ck_some.mp h
            rw [Int.toNat_natCast] at h1
            refine s_put (t' := vR w) (fun _ _ _ h => h) (σ1 := rr σ q (ru (gr σ q) f w)) hv h1 hfin rfl rfl rfl rfl rfl (fun i _ => rfl) (fun i hi => by rw [gr_rr, if_neg hi]) (fun j => ?_) (Or.inr ⟨hr, z2, w, rfl, h3⟩) hd (ih _ _ _ _ _ _ _ hlen h2)
            rw [gr_rr, if_pos rfl]
            unfold ru
            by_cases e : j = f
            · subst e
              rw [if_pos hr, if_pos rfl, if_pos rfl]
            · rw [if_neg e, if_neg e]
              rfl
          · cases h
        · rw [if_neg hr] at h
          rw [stp_52] at h
          split at h
          · next x q1 z q st2 hq2 =>
            try subst hq2
            obtain ⟨h1, h2⟩ := ck_some.mp h
            rw [Int.toNat_natCast] at h1
            refine s_put (t' := vI x) (fun _ _ _ h => h) (σ1 := sr σ q (ru (gt σ q) f x)) hv h1 hfin rfl rfl rfl rfl rfl (fun i hi => by rw [gt_sr, if_neg hi]) (fun i _ => rfl) (fun j => ?_) (Or.inl ⟨by simpa using hr, rfl⟩) hd (ih _ _ _ _ _ _ _ hlen h2)
            rw [gt_sr, if_pos rfl]
            unfold ru
            by_cases e : j = f
            · subst e
              rw [if_neg hr, if_pos rfl, if_pos rfl]
            · rw [if_neg e, if_neg e]
              rfl
          · cases h
      · cases ht
    · next heq =>
      cases heq
      cases ht
      by_cases hM : mo M = 4
      · rw [if_pos hM] at h
        rw [stp_66] at h
        split at h
        · next z q st2 =>
          exact s_slen hM hd (ih _ _ _ _ _ _ _ hlen h)
        · cases h
      · rw [if_neg hM] at h
        rw [stp_54] at h
        split at h
        · next z q st2 =>
          obtain ⟨h1, h2⟩ := ck_some.mp h
          exact s_alen h1 hd (ih _ _ _ _ _ _ _ hlen h2)
        · cases h
    · next heq =>
      cases heq
      cases ht
      by_cases hM : mo M = 4
      · rw [if_pos hM] at h
        rw [stp_65] at h
        split at h
        · next j q1 z q st2 =>
          split at h
          · next hj =>
            exact s_sald hM hj hd (ih _ _ _ _ _ _ _ hlen h)
          · cases h
        · cases h
      · rw [if_neg hM] at h
        rw [stp_55] at h
        split at h
        · next j q1 z q st2 =>
          obtain ⟨h1, h2⟩ := ck_some.mp h
          exact s_iald h1 hd (ih _ _ _ _ _ _ _ hlen h2)
        · cases h
    · next heq =>
      cases heq
      cases ht
      rw [stp_56] at h
      split at h
      · next y q2 j q1 z q st2 =>
        obtain ⟨h1, h2⟩ := ck_some.mp h
        exact s_iast h1 hd (ih _ _ _ _ _ _ _ hlen h2)
      · cases h
    · next heq =>
      cases heq
      cases ht
      rw [stp_57] at h
      split at h
      · next j q1 z q st2 =>
        obtain ⟨h1, h2⟩ := ck_some.mp h
        exact s_zald h1 hd (ih _ _ _ _ _ _ _ hlen h2)
      · cases h
    · next heq =>
      cases heq
      cases ht
      rw [stp_58] at h
      split at h
      · next y q2 j q1 z q st2 =>
        obtain ⟨h1, h2⟩ := ck_some.mp h
        exact s_zast h1.1 h1.2 hd (ih _ _ _ _ _ _ _ hlen h2)
      · cases h
    · next heq =>
      cases heq
      cases ht
      rw [stp_59] at h
      split at h
      · next j q1 z q st2 =>
        obtain ⟨h1, h2⟩ := ck_some.mp h
        exact s_aald h1 hd (ih _ _ _ _ _ _ _ hlen h2)
      · cases h
    · next heq =>
      cases heq
      cases ht
      rw [stp_60] at h
      split at h
      · next z2 w j q1 z q st2 =>
        obtain ⟨h1, h2⟩ := ck_some.mp h
        exact s_aast h1.1 h1.2 hd (ih _ _ _ _ _ _ _ hlen h2)
      · cases h
    · next heq =>
      cases heq
      cases ht
      rw [stp_61] at h
      split at h
      · next y q st2 =>
        split at h
        · next hy =>
          have g := ex_grow _ _ _ _ _ _ _ h
          exact s_newi hy ⟨g.1, g.2.1⟩ hd (ih _ _ _ _ _ _ _ hlen h)
        · cases h
      · cases h
    · next heq =>
      cases heq
      cases ht
      rw [stp_62] at h
      split at h
      · next y q st2 =>
        split at h
        · next hy =>
          have g := ex_grow _ _ _ _ _ _ _ h
          exact s_newz hy ⟨g.1, g.2.1⟩ hd (ih _ _ _ _ _ _ _ hlen h)
        · cases h
      · cases h
    · next j heq =>
      cases heq
      obtain ⟨k, hv, ht⟩ := Option.bind_eq_some_iff.mp ht
      split at ht
      · next hk0 =>
        subst hk0
        cases ht
        rw [stp_63] at h
        split at h
        · next y q st2 =>
          split at h
          · next hy =>
            have g := ex_grow _ _ _ _ _ _ _ h
            exact s_newr hv hy ⟨g.1, g.2.1⟩ hd (ih _ _ _ _ _ _ _ hlen h)
          · cases h
        · cases h
      · cases ht
    · next j heq =>
      cases heq
      obtain ⟨k, hv, rfl⟩ := Option.map_eq_some_iff.mp ht
      rw [stp_64] at h
      have g := ex_grow _ _ _ _ _ _ _ h
      exact s_new hv ⟨g.1, g.2.1⟩ hd (ih _ _ _ _ _ _ _ hlen h)
    · next heq =>
      cases heq
      split at ht
      · next hm =>
        cases ht
        rw [stp_70] at h
        split at h
        · next z q =>
          cases h
          intro p l e R s m args below meth c D A bS cI cZ cO L xs Q adl0 fc fs C E adl H locs cells slots als cst P hl hs
          have hs0 := st2_cons hs
          clear hs
          obtain ⟨v1, cst, rfl, ⟨x1, rfl, h1⟩, hs⟩ := hs0
          obtain rfl := st2_nil hs
          have hcc : cells = fc ∧ slots = fs := by
            obtain ⟨ws, a1, a2, a3, a4, a5, a6, a7, -⟩ := P
            omega
          obtain ⟨rfl, rfl⟩ := hcc
          exact E adl H locs als _ pc P (Or.inr (Or.inl ⟨Or.inl hm, x1, by rw [h1], rfl, (fun q => by rw [hm] at q; cases q), hd⟩))
        · cases h
      · split at ht
        · next hm =>
          cases ht
          rw [stp_71] at h
          split at h
          · next z q =>
            split at h
            · next hz =>
              cases h
              intro p l e R s m args below meth c D A bS cI cZ cO L xs Q adl0 fc fs C E adl H locs cells slots als cst P hl hs
              have hs0 := st2_cons hs
              clear hs
              obtain ⟨v1, cst, rfl, ⟨x1, rfl, h1⟩, hs⟩ := hs0
              obtain rfl := st2_nil hs
              have hcc : cells = fc ∧ slots = fs := by
                obtain ⟨ws, a1, a2, a3, a4, a5, a6, a7, -⟩ := P
                omega
              obtain ⟨rfl, rfl⟩ := hcc
              refine E adl H locs als _ pc P (Or.inr (Or.inl ⟨Or.inr hm, x1, by rw [h1], rfl, fun q => ?_, hd⟩))
              rcases hz with hz | hz
              · exact Or.inl (Int32.toInt_inj.mp (by rw [h1, hz]; rfl))
              · exact Or.inr (Int32.toInt_inj.mp (by rw [h1, hz]; rfl))
            · cases h
          · cases h
        · cases ht
    · next heq =>
      cases heq
      split at ht
      · next hm =>
        cases ht
        rw [stp_72] at h
        split at h
        · next z q =>
          cases h
          intro p l e R s m args below meth c D A bS cI cZ cO L xs Q adl0 fc fs C E adl H locs cells slots als cst P hl hs
          have hs0 := st2_cons hs
          clear hs
          obtain ⟨v1, cst, rfl, ⟨x1, rfl, h1⟩, hs⟩ := hs0
          obtain rfl := st2_nil hs
          have hcc : cells = fc ∧ slots = fs := by
            obtain ⟨ws, a1, a2, a3, a4, a5, a6, a7, -⟩ := P
            omega
          obtain ⟨rfl, rfl⟩ := hcc
          exact E adl H locs als _ pc P (Or.inr (Or.inr ⟨hm, x1, by rw [h1], rfl, hd⟩))
        · cases h
      · cases ht
    · next heq =>
      cases heq
      split at ht
      · next hm =>
        cases ht
        rw [stp_73] at h
        split at h
        · cases h
          intro p l e R s m args below meth c D A bS cI cZ cO L xs Q adl0 fc fs C E adl H locs cells slots als cst P hl hs
          obtain rfl := st2_nil hs
          have hcc : cells = fc ∧ slots = fs := by
            obtain ⟨ws, a1, a2, a3, a4, a5, a6, a7, -⟩ := P
            omega
          obtain ⟨rfl, rfl⟩ := hcc
          exact E adl H locs als _ pc P (Or.inl ⟨hm, rfl, rfl, hd⟩)
        · cases h
      · cases ht
    · next j heq =>
      cases heq
      obtain ⟨⟨c0, sy⟩, hv, ht⟩ := Option.bind_eq_some_iff.mp ht
      dsimp only at ht
      split at ht
      · next hsy =>
        split at ht
        · next hrm =>
          obtain ⟨nn', hn, ht⟩ := Option.bind_eq_some_iff.mp ht
          split at ht
          · next hnl =>
            cases ht
            rw [stp_80] at h
            obtain ⟨⟨h1, h2, h3⟩, h4⟩ := ck_some.mp h
            obtain ⟨⟨r1, σ1⟩, h5, h6⟩ := bnd_some.mp h4
            rw [Int.toNat_natCast] at h1 h2 h3 h5 h6
            exact s_static hv hsy hrm hn hnl h1 h2 h3 (ex_grow _ _ _ _ _ _ _ h5) (ex_grow _ _ _ _ _ _ _ h6) (ih _ _ _ _ _ _ _ (pad_len (by rw [List.length_reverse, List.length_take]; omega)) h5) hd (ih _ _ _ _ _ _ _ hlen h6)
          · cases ht
        · cases ht
      · split at ht
        · next hr =>
          split at ht
          · next e6 =>
            subst e6
            cases ht
            rw [stp_86] at h
            split at h
            · next y q1 x q2 st2 =>
              obtain ⟨h1, h2⟩ := ck_some.mp h
              exact s_max hv hr h1 hd (ih _ _ _ _ _ _ _ hlen h2)
            · cases h
          · split at ht
            · next e6 =>
              subst e6
              cases ht
              rw [stp_87] at h
              split at h
              · next y q1 x q2 st2 =>
                obtain ⟨h1, h2⟩ := ck_some.mp h
                exact s_min hv hr h1 hd (ih _ _ _ _ _ _ _ hlen h2)
              · cases h
            · split at ht
              · next e6 =>
                subst e6
                cases ht
                rw [stp_88] at h
                split at h
                · next x q2 st2 =>
                  obtain ⟨h1, h2⟩ := ck_some.mp h
                  exact s_abs hv hr h1 hd (ih _ _ _ _ _ _ _ hlen h2)
                · cases h
              · cases ht
        · cases ht
    · next j heq =>
      cases heq
      obtain ⟨⟨c0, sy⟩, hv, ht⟩ := Option.bind_eq_some_iff.mp ht
      dsimp only at ht
      split at ht
      · next hsy =>
        obtain ⟨nn', hn, ht⟩ := Option.bind_eq_some_iff.mp ht
        split at ht
        · next hnl =>
          cases ht
          rw [stp_82] at h
          obtain ⟨⟨h1, h2, h3, h7, h8⟩, h4⟩ := ck_some.mp h
          obtain ⟨⟨r1, σ1⟩, h5, h6⟩ := bnd_some.mp h4
          rw [Int.toNat_natCast] at h1 h2 h3 h5 h6 h7 h8
          exact s_inst (virt := true) hv hsy.1 hsy.2 hn hnl h1 h2 h3 (ex_grow _ _ _ _ _ _ _ h5) (ex_grow _ _ _ _ _ _ _ h6) h7 h8 (ih _ _ _ _ _ _ _ (pad_len (by rw [List.length_reverse, List.length_take]; omega)) h5) hd (ih _ _ _ _ _ _ _ hlen h6)
        · cases ht
      · cases ht
    · next j heq =>
      cases heq
      obtain ⟨⟨c0, sy⟩, hv, ht⟩ := Option.bind_eq_some_iff.mp ht
      dsimp only at ht
      split at ht
      · next hsy =>
        obtain ⟨nn', hn, ht⟩ := Option.bind_eq_some_iff.mp ht
        split at ht
        · next hnl =>
          cases ht
          rw [stp_83] at h
          obtain ⟨⟨h1, h2, h3, h7, h8⟩, h4⟩ := ck_some.mp h
          obtain ⟨⟨r1, σ1⟩, h5, h6⟩ := bnd_some.mp h4
          rw [Int.toNat_natCast] at h1 h2 h3 h5 h6 h7 h8
          exact s_inst (virt := false) hv hsy.1 hsy.2 hn hnl h1 h2 h3 (ex_grow _ _ _ _ _ _ _ h5) (ex_grow _ _ _ _ _ _ _ h6) h7 h8 (ih _ _ _ _ _ _ _ (pad_len (by rw [List.length_reverse, List.length_take]; omega)) h5) hd (ih _ _ _ _ _ _ _ hlen h6)
        · cases ht
      · split at ht
        · next hr =>
          obtain ⟨e5, hr⟩ := hr
          subst e5
          cases ht
          rw [stp_85] at h
          split at h
          · next z q st2 =>
            obtain ⟨h1, h2⟩ := ck_some.mp h
            exact s_obj hv hr h1.1 h1.2 hd (ih _ _ _ _ _ _ _ hlen h2)
          · cases h
        · cases ht
    · cases ht
