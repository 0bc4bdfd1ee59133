theorem nmcF_s {p : Nat} {S : ns_T} {i t : Nat} (h : nhelp p S i = some t) : nmcF p S (i + 1) = nmcF p S i + ncs S t := by
  show nmcF p S i + ((nhelp p S i).map (ncs S)).getD 0 = _
  rw [h]
  rfl
theorem nmcF_n {p : Nat} {S : ns_T} {i : Nat} (h : nhelp p S i = none) : nmcF p S (i + 1) = nmcF p S i := by
  show nmcF p S i + ((nhelp p S i).map (ncs S)).getD 0 = _
  rw [h]
  rfl
theorem nmhF_s {p : Nat} {S : ns_T} {i t : Nat} (h : nhelp p S i = some t) : nmhF p S (i + 1) = nmhF p S i + 1 := by
  show nmhF p S i + (if (nhelp p S i).isSome = true then 1 else 0) = _
  rw [h]
  rfl
theorem nmhF_n {p : Nat} {S : ns_T} {i : Nat} (h : nhelp p S i = none) : nmhF p S (i + 1) = nmhF p S i := by
  show nmhF p S i + (if (nhelp p S i).isSome = true then 1 else 0) = _
  rw [h]
  rfl
theorem nmean_no {p : Nat} {S : ns_T} {w : Int32} (h : ¬ ((w = 0 ∨ w = 1) ∧ nmhF p S (S 0 0) ≠ 0)) : nmean p S w = -9223372036854775808 := if_neg h
theorem nmean_yes {p : Nat} {S : ns_T} {w : Int32} (h : w = 0 ∨ w = 1) (h2 : nmhF p S (S 0 0) ≠ 0) : nmean p S w = nfrac (nmcF p S (S 0 0)) (nmhF p S (S 0 0)) w := if_pos ⟨h, h2⟩
theorem RKI.to {σ σ' : ex_S} {p : Nat} {S : ns_T} (h : RKI σ p S) (h6 : σ' 6 = σ 6) : RKI σ' p S := fun t ht => by rw [h6]; exact h t ht
theorem hI_or {o : Option Nat} (h : ∀ t, o = some t → t < 2 ^ 31) : (hI o = -5 ∧ o = none) ∨ ∃ t, o = some t ∧ hI o = nI t ∧ ¬ hI o = -5 := by
  cases o with
  | none => exact Or.inl ⟨rfl, rfl⟩
  | some t => exact Or.inr ⟨t, rfl, rfl, hI_some (h t rfl)⟩

set_option maxRecDepth 100000 in
theorem c10_mean {p : Nat} (hp : gP p) {S : ns_T} (hV : VS S) {w : Int32} {σ : ex_S} {μ : ex_L}(hC : NC σ 33 S) (hK : RKI σ p S) (h0 : σ 31 0 = 0) : Cg 8 yX10_mean cX10_mean 6 (some .long) [.ref 0, .int w] TT σ μ (fun z' σ' μ' => z' = nmean p S w ∧ (∀ i, i ≠ 31 → σ' i = σ i) ∧ σ' 31 0 = 0 ∧ μ' = μ) := by
  refine Cl_of (by decide +kernel) (Nat.le_of_ble_eq_true rfl) ?_
  show Ev RX10 cX10_mean 6 8 0 0 "mean" (some .long) ev_ext _ _ 0 0 0 [(0, .ref 0), (1, .int w)] [] TT σ μ
  have hn := hV.1
  have h2n := two_n hV
  have loop : (w = 0 ∨ w = 1) → ∀ (m i : Nat) (σ1 : ex_S), i + m = S 0 0 → (∀ k, k ≠ 31 → σ1 k = σ k) → σ1 31 0 = 0 → Ev RX10 cX10_mean 6 8 0 0 "mean" (some .long) ev_ext TT.length (fun v9 T9 σ9 μ9 => T9 = TT ∧ ∃ z9, v9 = some (.long z9) ∧ (fun z' σ' μ' => z' = nmean p S w ∧ (∀ i, i ≠ 31 → σ' i = σ i) ∧ σ' 31 0 = 0 ∧ μ' = μ) z9 σ9 μ9) 0 0 18 [(0, .ref 0), (1, .int w), (2, .int (nI (nmcF p S (i)))), (3, .int (nI (nmhF p S (i)))), (4, .int (nI (i)))] [] TT σ1 μ := by
    intro hw m
    induction m with
    | zero =>
      intro i σ1 hi f1 f2
      obtain rfl : i = S 0 0 := by omega
      have hC1 := hC.to hV (σ' := σ1) (fun k h1 h2 => f1 k (by omega))
      have hmc := nmcF_le (p := p) hV (S 0 0)
      have hmh := nmhF_le (p := p) (S := S) (S 0 0)
      refine e_iload dX10_mean_18 4 rfl ?_
      refine e_aload_n dX10_mean_20 rfl 0 rfl ?_
      refine e_getR dX10_mean_21 lkX10_46 tt_0 rfl ?_
      refine e_getR dX10_mean_24 lkX10_89 (store_0 store_32_) rfl ?_
      refine e_getI dX10_mean_27 lkX10_92 (nodes_0 (store_n store_32_)) rfl ?_
      rw [hC1.1]
      refine e_icmp_ge (t := 82) dX10_mean_30 (by decide) (fun h30 => ?_) (fun h30 => ?_)
      · skip
        refine e_iload_n dX10_mean_82 rfl 3 rfl ?_
        refine e_if_ne (t := 92) dX10_mean_83 (by decide) (fun h83 => ?_) (fun h83 => ?_)
        · skip
          have hz : nmhF p S (S 0 0) ≠ 0 := fun q => h83 (by rw [q]; rfl)
          refine e_iload_n dX10_mean_92 rfl 2 rfl ?_
          refine e_iload_n dX10_mean_93 rfl 3 rfl ?_
          refine e_iload_n dX10_mean_94 rfl 1 rfl ?_
          refine e_callSl dX10_mean_95 cvX10_322 rfl (c10_partOf (a := nmcF p S (S 0 0)) (b := nmhF p S (S 0 0)) (w := w) (by omega) (by omega) (Nat.pos_of_ne_zero hz)) (Nat.le_of_ble_eq_true rfl) (Nat.le_refl _) (Nat.le_refl _) rfl (Nat.le_of_ble_eq_true rfl) (fun r95 s95 m95 q95 => ?_)
          obtain ⟨q95, e95, g95⟩ := q95
          rw [e95, g95]
          clear e95 g95 s95 m95
          refine e_retl dX10_mean_98 (Nat.le_refl _) (Nat.le_refl _) ?_
          exact ⟨by rw [q95, nmean_yes hw hz], f1, f2, rfl⟩
        · skip
          have hz := (i_eq (by omega) (by decide)).mp (show nI _ = nI 0 from h83)
          refine e_ldc2 dX10_mean_86 kcX10_294 ?_
          refine e_goto (t := 98) dX10_mean_89 (by decide) ?_
          refine e_retl dX10_mean_98 (Nat.le_refl _) (Nat.le_refl _) ?_
          exact ⟨(nmean_no (fun q => q.2 hz)).symm, f1, f2, rfl⟩
      · skip
        exact absurd (show nI (S 0 0) ≤ nI (S 0 0) from (i_le (by omega) (by omega)).mpr (by omega)) h30
    | succ m ih =>
      intro i σ1 hi f1 f2
      have hC1 := hC.to hV (σ' := σ1) (fun k h1 h2 => f1 k (by omega))
      have hK1 := hK.to (f1 6 (by decide))
      refine e_iload dX10_mean_18 4 rfl ?_
      refine e_aload_n dX10_mean_20 rfl 0 rfl ?_
      refine e_getR dX10_mean_21 lkX10_46 tt_0 rfl ?_
      refine e_getR dX10_mean_24 lkX10_89 (store_0 store_32_) rfl ?_
      refine e_getI dX10_mean_27 lkX10_92 (nodes_0 (store_n store_32_)) rfl ?_
      rw [hC1.1]
      refine e_icmp_ge (t := 82) dX10_mean_30 (by decide) (fun h30 => ?_) (fun h30 => ?_)
      · skip
        exact absurd ((i_le (by omega) (by omega)).mp (show nI (S 0 0) ≤ nI i from h30)) (by omega)
      · skip
        refine e_aload_n dX10_mean_33 rfl 0 rfl ?_
        refine e_getR dX10_mean_34 lkX10_39 tt_0 rfl ?_
        refine e_aload_n dX10_mean_37 rfl 0 rfl ?_
        refine e_getR dX10_mean_38 lkX10_46 tt_0 rfl ?_
        refine e_getR dX10_mean_41 lkX10_89 (store_0 store_32_) rfl ?_
        refine e_iload dX10_mean_44 4 rfl ?_
        refine e_callVi dX10_mean_46 cvX10_194 rfl tt_30 rfl (c2_helpOf nodes_33_ (by decide) hp hV (j := i) (by omega) hC1 hK1 f2) (Nat.le_of_ble_eq_true rfl) (Nat.le_refl _) (Nat.le_refl _) rfl (Nat.le_of_ble_eq_true rfl) (fun r46 s46 m46 q46 => ?_)
        obtain ⟨q46, a1, a2, a3⟩ := q46
        rw [a3]
        have hC2 := hC1.to hV (σ' := s46) (fun k h1 h2 => a1 k (by omega))
        refine e_istore [(0, .ref 0), (1, .int w), (2, .int (nI (nmcF p S (i)))), (3, .int (nI (nmhF p S (i)))), (4, .int (nI (i))), (5, .int r46)] dX10_mean_49 (by decide) rfl ?_
        refine e_iload dX10_mean_51 5 rfl ?_
        refine e_bipush (v := (-5)) dX10_mean_53 rfl ?_
        refine e_icmp_eq (t := 76) dX10_mean_55 (by decide) (fun h55 => ?_) (fun h55 => ?_)
        · skip
          have ht : nhelp p S i = none := by
            rcases hI_or (o := nhelp p S i) (fun t ht => Nat.lt_trans (nhelp_lt hV ht) (by decide)) with ⟨_, q⟩ | ⟨_, _, _, q⟩
            · exact q
            · exact absurd (q46.symm.trans h55) q
          refine e_iinc (nI (i + 1)) [(0, .ref 0), (1, .int w), (2, .int (nI (nmcF p S (i)))), (3, .int (nI (nmhF p S (i)))), (4, .int (nI (i + 1))), (5, .int r46)] dX10_mean_76 4 rfl (nI_1 i) (by decide) rfl ?_
          refine e_goto (t := 18) dX10_mean_79 (by decide) ?_
          refine e_lv [(0, .ref 0), (1, .int w), (2, .int (nI (nmcF p S (i)))), (3, .int (nI (nmhF p S (i)))), (4, .int (nI (i + 1)))] (List.forall_mem_cons.mpr ⟨List.mem_of_getElem? (i := 0) rfl, List.forall_mem_cons.mpr ⟨List.mem_of_getElem? (i := 1) rfl, List.forall_mem_cons.mpr ⟨List.mem_of_getElem? (i := 2) rfl, List.forall_mem_cons.mpr ⟨List.mem_of_getElem? (i := 3) rfl, List.forall_mem_cons.mpr ⟨List.mem_of_getElem? (i := 4) rfl, fun _ h => absurd h List.not_mem_nil⟩⟩⟩⟩⟩) ?_
          have h9 := ih (i + 1) _ (by omega) (fun k hk => (a1 k hk).trans (f1 k hk)) a2
          rw [nmcF_n ht, nmhF_n ht] at h9
          exact h9
        · skip
          obtain ⟨t, ht, q46⟩ : ∃ t, nhelp p S i = some t ∧ r46 = nI t := by
            rcases hI_or (o := nhelp p S i) (fun t ht => Nat.lt_trans (nhelp_lt hV ht) (by decide)) with ⟨q, _⟩ | ⟨t, q, q2, _⟩
            · exact absurd (q46.trans q) h55
            · exact ⟨t, q, q46.trans q2⟩
          subst q46
          refine e_iload_n dX10_mean_58 rfl 2 rfl ?_
          refine e_aload_n dX10_mean_59 rfl 0 rfl ?_
          refine e_getR dX10_mean_60 lkX10_46 tt_0 rfl ?_
          refine e_getR dX10_mean_63 lkX10_89 (store_0 store_32_) rfl ?_
          refine e_iload dX10_mean_66 5 rfl ?_
          refine e_callVi dX10_mean_68 cvX10_198 rfl (nodes_0 (store_n store_32_)) rfl (c3_costsOf nodes_33_ hV (t := t) (by have := nhelp_lt hV ht; omega) hC2) (Nat.le_of_ble_eq_true rfl) (Nat.le_refl _) (Nat.le_refl _) rfl (Nat.le_of_ble_eq_true rfl) (fun r68 s68 m68 q68 => ?_)
          obtain ⟨q68, e68, g68⟩ := q68
          rw [e68, g68]
          clear e68 g68 s68 m68
          rw [q68]
          refine e_iadd dX10_mean_71 ?_
          rw [i_add, ← nmcF_s ht]
          refine e_istore_n [(0, .ref 0), (1, .int w), (2, .int (nI (nmcF p S (i + 1)))), (3, .int (nI (nmhF p S (i)))), (4, .int (nI (i))), (5, .int (nI t))] dX10_mean_72 rfl (by decide) rfl ?_
          refine e_iinc (nI (nmhF p S (i + 1))) [(0, .ref 0), (1, .int w), (2, .int (nI (nmcF p S (i + 1)))), (3, .int (nI (nmhF p S (i + 1)))), (4, .int (nI (i))), (5, .int (nI t))] dX10_mean_73 3 rfl (by rw [nmhF_s ht]; exact nI_1 _) (by decide) rfl ?_
          refine e_iinc (nI (i + 1)) [(0, .ref 0), (1, .int w), (2, .int (nI (nmcF p S (i + 1)))), (3, .int (nI (nmhF p S (i + 1)))), (4, .int (nI (i + 1))), (5, .int (nI t))] dX10_mean_76 4 rfl (nI_1 i) (by decide) rfl ?_
          refine e_goto (t := 18) dX10_mean_79 (by decide) ?_
          refine e_lv [(0, .ref 0), (1, .int w), (2, .int (nI (nmcF p S (i + 1)))), (3, .int (nI (nmhF p S (i + 1)))), (4, .int (nI (i + 1)))] (List.forall_mem_cons.mpr ⟨List.mem_of_getElem? (i := 0) rfl, List.forall_mem_cons.mpr ⟨List.mem_of_getElem? (i := 1) rfl, List.forall_mem_cons.mpr ⟨List.mem_of_getElem? (i := 2) rfl, List.forall_mem_cons.mpr ⟨List.mem_of_getElem? (i := 3) rfl, List.forall_mem_cons.mpr ⟨List.mem_of_getElem? (i := 4) rfl, fun _ h => absurd h List.not_mem_nil⟩⟩⟩⟩⟩) ?_
          exact ih (i + 1) _ (by omega) (fun k hk => (a1 k hk).trans (f1 k hk)) a2
  refine e_iload_n dX10_mean_0 rfl 1 rfl ?_
  refine e_callSi dX10_mean_1 cvX10_319 rfl (c10_isPart w) (Nat.le_of_ble_eq_true rfl) (Nat.le_refl _) (Nat.le_refl _) rfl (Nat.le_of_ble_eq_true rfl) (fun r1 s1 m1 q1 => ?_)
  obtain ⟨q1, e1, g1⟩ := q1
  rw [e1, g1]
  clear e1 g1 s1 m1
  refine e_if_ne (t := 11) dX10_mean_4 (by decide) (fun h4 => ?_) (fun h4 => ?_)
  · skip
    rw [q1, bI_eq0] at h4
    have hw := Classical.not_not.mp h4
    refine e_iconst (v := 0) dX10_mean_11 rfl ?_
    refine e_istore_n [(0, .ref 0), (1, .int w), (2, .int (nI (nmcF p S 0)))] dX10_mean_12 rfl (by decide) rfl ?_
    refine e_iconst (v := 0) dX10_mean_13 rfl ?_
    refine e_istore_n [(0, .ref 0), (1, .int w), (2, .int (nI (nmcF p S 0))), (3, .int (nI (nmhF p S 0)))] dX10_mean_14 rfl (by decide) rfl ?_
    refine e_iconst (v := 0) dX10_mean_15 rfl ?_
    refine e_istore [(0, .ref 0), (1, .int w), (2, .int (nI (nmcF p S 0))), (3, .int (nI (nmhF p S 0))), (4, .int (nI 0))] dX10_mean_16 (by decide) rfl ?_
    exact loop hw (S 0 0) 0 σ (by omega) (fun _ _ => rfl) h0
  · skip
    rw [q1] at h4
    have hw : ¬ (w = 0 ∨ w = 1) := bI_eq0.mp h4
    refine e_ldc2 dX10_mean_7 kcX10_294 ?_
    refine e_retl dX10_mean_10 (Nat.le_refl _) (Nat.le_refl _) ?_
    exact ⟨(nmean_no (fun q => hw q.1)).symm, fun _ _ => rfl, h0, rfl⟩

set_option maxRecDepth 100000 in
theorem c11_mean {p : Nat} (hp : gP p) {S : ns_T} (hV : VS S) {w : Int32} {σ : ex_S} {μ : ex_L}(hF : FR σ p) (hR : NR σ S) : Cg 9 yX11_mean cX11_mean 5 (some .long) [.ref 127, .int w] TT σ μ (fun z' σ' μ' => z' = nmean p S w ∧ FrS σ σ' ∧ μ' = μ) := by
  refine Cl_of (by decide +kernel) (Nat.le_of_ble_eq_true rfl) ?_
  show Ev RX11 cX11_mean 5 9 0 0 "mean" (some .long) ev_ext _ _ 0 0 0 [(0, .ref 127), (1, .int w)] [] TT σ μ
  have hn := hV.1
  have h2n := two_n hV
  have loop : (w = 0 ∨ w = 1) → ∀ (m i : Nat) (σ1 : ex_S), i + m = S 0 0 → FrS σ σ1 → Ev RX11 cX11_mean 5 9 0 0 "mean" (some .long) ev_ext TT.length (fun v9 T9 σ9 μ9 => T9 = TT ∧ ∃ z9, v9 = some (.long z9) ∧ (fun z' σ' μ' => z' = nmean p S w ∧ FrS σ σ' ∧ μ' = μ) z9 σ9 μ9) 0 0 20 [(0, .ref 127), (1, .int w), (2, .int (nI (nmhF p S (i)))), (3, .int (nI (nmcF p S (i)))), (4, .int (nI (i)))] [] TT σ1 μ := by
    intro hw m
    induction m with
    | zero =>
      intro i σ1 hi f1
      obtain rfl : i = S 0 0 := by omega
      have hR1 := hR.toS f1
      have hmc := nmcF_le (p := p) hV (S 0 0)
      have hmh := nmhF_le (p := p) (S := S) (S 0 0)
      refine e_iload dX11_mean_20 4 rfl ?_
      refine e_aload_n dX11_mean_22 rfl 0 rfl ?_
      refine e_getI dX11_mean_23 lkX11_95 tt_127 rfl ?_
      rw [hR1.1]
      refine e_icmp_ge (t := 63) dX11_mean_26 (by decide) (fun h26 => ?_) (fun h26 => ?_)
      · skip
        refine e_iload_n dX11_mean_63 rfl 2 rfl ?_
        refine e_if_ne (t := 73) dX11_mean_64 (by decide) (fun h64 => ?_) (fun h64 => ?_)
        · skip
          have hz : nmhF p S (S 0 0) ≠ 0 := fun q => h64 (by rw [q]; rfl)
          refine e_iload_n dX11_mean_73 rfl 3 rfl ?_
          refine e_i2l dX11_mean_74 ?_
          refine e_iload_n dX11_mean_75 rfl 2 rfl ?_
          refine e_i2l dX11_mean_76 ?_
          refine e_iload_n dX11_mean_77 rfl 1 rfl ?_
          rw [nI_l (show nmcF p S (S 0 0) < 2 ^ 31 by omega), nI_l (show nmhF p S (S 0 0) < 2 ^ 31 by omega)]
          refine e_callSl dX11_mean_78 cvX11_272 rfl (c11_part (a := nmcF p S (S 0 0)) (b := nmhF p S (S 0 0)) (w := w) (by omega) (by omega) (Nat.pos_of_ne_zero hz)) (Nat.le_of_ble_eq_true rfl) (Nat.le_refl _) (Nat.le_refl _) rfl (Nat.le_of_ble_eq_true rfl) (fun r78 s78 m78 q78 => ?_)
          obtain ⟨q78, e78, g78⟩ := q78
          rw [e78, g78]
          clear e78 g78 s78 m78
          refine e_retl dX11_mean_81 (Nat.le_refl _) (Nat.le_refl _) ?_
          exact ⟨by rw [q78, nmean_yes hw hz], f1, rfl⟩
        · skip
          have hz := (i_eq (by omega) (by decide)).mp (show nI _ = nI 0 from h64)
          refine e_ldc2 dX11_mean_67 kcX11_260 ?_
          refine e_goto (t := 81) dX11_mean_70 (by decide) ?_
          refine e_retl dX11_mean_81 (Nat.le_refl _) (Nat.le_refl _) ?_
          exact ⟨(nmean_no (fun q => q.2 hz)).symm, f1, rfl⟩
      · skip
        exact absurd (show nI (S 0 0) ≤ nI (S 0 0) from (i_le (by omega) (by omega)).mpr (by omega)) h26
    | succ m ih =>
      intro i σ1 hi f1
      have hR1 := hR.toS f1
      have hF1 := hF.toS f1
      refine e_iload dX11_mean_20 4 rfl ?_
      refine e_aload_n dX11_mean_22 rfl 0 rfl ?_
      refine e_getI dX11_mean_23 lkX11_95 tt_127 rfl ?_
      rw [hR1.1]
      refine e_icmp_ge (t := 63) dX11_mean_26 (by decide) (fun h26 => ?_) (fun h26 => ?_)
      · skip
        exact absurd ((i_le (by omega) (by omega)).mp (show nI (S 0 0) ≤ nI i from h26)) (by omega)
      · skip
        refine e_aload_n dX11_mean_29 rfl 0 rfl ?_
        refine e_iload dX11_mean_30 4 rfl ?_
        refine e_callVv dX11_mean_32 cvX11_180 rfl tt_127 rfl (c11_helps hp hV (j := i) (by omega) hF1 hR1) (Nat.le_of_ble_eq_true rfl) (Nat.le_refl _) (Nat.le_refl _) rfl (Nat.le_of_ble_eq_true rfl) (fun s32 m32 q32 => ?_)
        obtain ⟨a1, a2, a3, a4⟩ := q32
        rw [a4]
        refine e_aload_n dX11_mean_35 rfl 0 rfl ?_
        refine e_getI dX11_mean_36 lkX11_190 tt_127 rfl ?_
        refine e_bipush (v := (-5)) dX11_mean_39 rfl ?_
        rw [a1]
        refine e_icmp_ne (t := 47) dX11_mean_41 (by decide) (fun h41 => ?_) (fun h41 => ?_)
        · skip
          obtain ⟨t, ht⟩ : ∃ t, nhelp p S i = some t := by
            rcases hI_or (o := nhelp p S i) (fun t ht => Nat.lt_trans (nhelp_lt hV ht) (by decide)) with ⟨q, _⟩ | ⟨t, q, _⟩
            · exact absurd q h41
            · exact ⟨t, q⟩
          refine e_iinc (nI (nmhF p S (i + 1))) [(0, .ref 127), (1, .int w), (2, .int (nI (nmhF p S (i + 1)))), (3, .int (nI (nmcF p S (i)))), (4, .int (nI (i)))] dX11_mean_47 2 rfl (by rw [nmhF_s ht]; exact nI_1 _) (by decide) rfl ?_
          refine e_iload_n dX11_mean_50 rfl 3 rfl ?_
          refine e_aload_n dX11_mean_51 rfl 0 rfl ?_
          refine e_getI dX11_mean_52 lkX11_193 tt_127 rfl ?_
          rw [a2, ht]
          refine e_iadd dX11_mean_55 ?_
          rw [show nI (nmcF p S i) + hI (Option.map (ncs S) (some t)) = nI (nmcF p S (i + 1)) from by rw [nmcF_s ht, ← i_add]; rfl]
          refine e_istore_n [(0, .ref 127), (1, .int w), (2, .int (nI (nmhF p S (i + 1)))), (3, .int (nI (nmcF p S (i + 1)))), (4, .int (nI (i)))] dX11_mean_56 rfl (by decide) rfl ?_
          refine e_iinc (nI (i + 1)) [(0, .ref 127), (1, .int w), (2, .int (nI (nmhF p S (i + 1)))), (3, .int (nI (nmcF p S (i + 1)))), (4, .int (nI (i + 1)))] dX11_mean_57 4 rfl (nI_1 i) (by decide) rfl ?_
          refine e_goto (t := 20) dX11_mean_60 (by decide) ?_
          exact ih (i + 1) _ (by omega) (f1.tr a3)
        · skip
          have ht : nhelp p S i = none := by
            rcases hI_or (o := nhelp p S i) (fun t ht => Nat.lt_trans (nhelp_lt hV ht) (by decide)) with ⟨_, q⟩ | ⟨_, _, _, q⟩
            · exact q
            · exact absurd h41 q
          refine e_goto (t := 57) dX11_mean_44 (by decide) ?_
          refine e_iinc (nI (i + 1)) [(0, .ref 127), (1, .int w), (2, .int (nI (nmhF p S (i)))), (3, .int (nI (nmcF p S (i)))), (4, .int (nI (i + 1)))] dX11_mean_57 4 rfl (nI_1 i) (by decide) rfl ?_
          refine e_goto (t := 20) dX11_mean_60 (by decide) ?_
          have h9 := ih (i + 1) _ (by omega) (f1.tr a3)
          rw [nmcF_n ht, nmhF_n ht] at h9
          exact h9
  refine e_iload_n dX11_mean_0 rfl 1 rfl ?_
  refine e_iconst (v := 0) dX11_mean_1 rfl ?_
  refine e_iconst (v := 1) dX11_mean_2 rfl ?_
  refine e_callSi dX11_mean_3 cvX11_99 rfl (c11_within w 0 1) (Nat.le_of_ble_eq_true rfl) (Nat.le_refl _) (Nat.le_refl _) rfl (Nat.le_of_ble_eq_true rfl) (fun r3 s3 m3 q3 => ?_)
  obtain ⟨q3, e3, g3⟩ := q3
  rw [e3, g3]
  clear e3 g3 s3 m3
  refine e_if_ne (t := 13) dX11_mean_6 (by decide) (fun h6 => ?_) (fun h6 => ?_)
  · skip
    rw [q3, bI_eq0] at h6
    have hw := i01 (Classical.not_not.mp h6)
    refine e_iconst (v := 0) dX11_mean_13 rfl ?_
    refine e_istore_n [(0, .ref 127), (1, .int w), (2, .int (nI (nmhF p S 0)))] dX11_mean_14 rfl (by decide) rfl ?_
    refine e_iconst (v := 0) dX11_mean_15 rfl ?_
    refine e_istore_n [(0, .ref 127), (1, .int w), (2, .int (nI (nmhF p S 0))), (3, .int (nI (nmcF p S 0)))] dX11_mean_16 rfl (by decide) rfl ?_
    refine e_iconst (v := 0) dX11_mean_17 rfl ?_
    refine e_istore [(0, .ref 127), (1, .int w), (2, .int (nI (nmhF p S 0))), (3, .int (nI (nmcF p S 0))), (4, .int (nI 0))] dX11_mean_18 (by decide) rfl ?_
    exact loop hw (S 0 0) 0 σ (by omega) FrS.rf
  · skip
    rw [q3] at h6
    have hw : ¬ (w = 0 ∨ w = 1) := fun q => bI_eq0.mp h6 (i01' q)
    refine e_ldc2 dX11_mean_9 kcX11_260 ?_
    refine e_retl dX11_mean_12 (Nat.le_refl _) (Nat.le_refl _) ?_
    exact ⟨(nmean_no (fun q => hw q.1)).symm, FrS.rf, rfl⟩
