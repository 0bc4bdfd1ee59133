theorem nodds_no {p : Nat} {S : ns_T} {e w : Int32} (h : ¬ ((0 ≤ e ∧ e ≤ 10) ∧ e.toNatClampNeg ≤ S 0 0 ∧ (w = 0 ∨ w = 1))) : nodds p S e w = -9223372036854775808 := if_neg h
theorem nodds_yes {p : Nat} {S : ns_T} {k : Nat} {w : Int32} (h1 : k ≤ 10) (h2 : k ≤ S 0 0) (h3 : w = 0 ∨ w = 1) : nodds p S (nI k) w = nfrac (nsafe p S k) (nany S k) w := by
  unfold nodds
  rw [i_cl (by omega)]
  exact if_pos ⟨⟨i_nn (by omega), (i_le (by omega) (by decide)).mpr h1⟩, h2, h3⟩
theorem nany_pos {S : ns_T} (hV : VS S) {k : Nat} (hk : k ≤ 10) : nany S k = 0 ↔ S 0 0 < k := by
  rw [nany_eq hV hk]
  exact nbin_0 _ (by have := hV.1; omega) k (by omega)
theorem i01 {w : Int32} (h : 0 ≤ w ∧ w ≤ 1) : w = 0 ∨ w = 1 := by
  obtain ⟨k, hk, rfl⟩ := i_of (m := 1) (by decide) h.1 (show _ ≤ nI 1 from h.2)
  rcases (show k = 0 ∨ k = 1 by omega) with rfl | rfl
  · exact Or.inl rfl
  · exact Or.inr rfl
theorem i01' {w : Int32} (h : w = 0 ∨ w = 1) : 0 ≤ w ∧ w ≤ 1 := by
  rcases h with rfl | rfl <;> decide

set_option maxRecDepth 100000 in
theorem c10_odds {p : Nat} (hp : gP p) {S : ns_T} (hV : VS S) {e w : Int32} {σ : ex_S} {μ : ex_L}(hC : NC σ 33 S) (hK : RKI σ p S) : Cg 7 yX10_odds cX10_odds 3 (some .long) [.ref 0, .int e, .int w] TT σ μ (fun z' σ' μ' => z' = nodds p S e w ∧ σ' = σ ∧ μ' = μ) := by
  refine Cl_of (by decide +kernel) (Nat.le_of_ble_eq_true rfl) ?_
  show Ev RX10 cX10_odds 3 7 0 0 "odds" (some .long) ev_ext _ _ 0 0 0 [(0, .ref 0), (1, .int e), (2, .int w)] [] TT σ μ
  have hn := hV.1
  have h2n := two_n hV
  refine e_iload_n dX10_odds_0 rfl 1 rfl ?_
  refine e_callSi dX10_odds_1 cvX10_262 rfl (c10_isSetSize e) (Nat.le_of_ble_eq_true rfl) (Nat.le_refl _) (Nat.le_refl _) rfl (Nat.le_of_ble_eq_true rfl) (fun r1 s1 m1 q1 => ?_)
  obtain ⟨q1, e1, g1⟩ := q1
  rw [e1, g1]
  clear e1 g1 s1 m1
  refine e_if_eq (t := 28) dX10_odds_4 (by decide) (fun h4 => ?_) (fun h4 => ?_)
  · skip
    rw [q1, bI_eq0] at h4
    refine e_ldc2 dX10_odds_28 kcX10_294 ?_
    refine e_retl dX10_odds_31 (Nat.le_refl _) (Nat.le_refl _) ?_
    exact ⟨(nodds_no (fun q => h4 q.1)).symm, rfl, rfl⟩
  · skip
    rw [q1, bI_eq0] at h4
    have hP := Classical.not_not.mp h4
    obtain ⟨k, hk, rfl⟩ := i_of (x := e) (m := 10) (by omega) hP.1 (show _ ≤ nI (10) from hP.2)
    refine e_iload_n dX10_odds_7 rfl 1 rfl ?_
    refine e_aload_n dX10_odds_8 rfl 0 rfl ?_
    refine e_getR dX10_odds_9 lkX10_46 tt_0 rfl ?_
    refine e_getR dX10_odds_12 lkX10_89 (store_0 store_32_) rfl ?_
    refine e_getI dX10_odds_15 lkX10_92 (nodes_0 (store_n store_32_)) rfl ?_
    rw [hC.1]
    refine e_icmp_gt (t := 28) dX10_odds_18 (by decide) (fun h18 => ?_) (fun h18 => ?_)
    · skip
      have hlt := (i_lt (by omega) (by omega)).mp (show nI (S 0 0) < nI k from h18)
      refine e_ldc2 dX10_odds_28 kcX10_294 ?_
      refine e_retl dX10_odds_31 (Nat.le_refl _) (Nat.le_refl _) ?_
      exact ⟨(nodds_no (fun q => by
        have := q.2.1
        rw [i_cl (by omega)] at this
        omega)).symm, rfl, rfl⟩
    · skip
      have hle : k ≤ S 0 0 := Nat.not_lt.mp (fun q => h18 ((i_lt (by omega) (by omega)).mpr q))
      refine e_iload_n dX10_odds_21 rfl 2 rfl ?_
      refine e_callSi dX10_odds_22 cvX10_319 rfl (c10_isPart w) (Nat.le_of_ble_eq_true rfl) (Nat.le_refl _) (Nat.le_refl _) rfl (Nat.le_of_ble_eq_true rfl) (fun r22 s22 m22 q22 => ?_)
      obtain ⟨q22, e22, g22⟩ := q22
      rw [e22, g22]
      clear e22 g22 s22 m22
      refine e_if_ne (t := 32) dX10_odds_25 (by decide) (fun h25 => ?_) (fun h25 => ?_)
      · skip
        rw [q22, bI_eq0] at h25
        have hw := Classical.not_not.mp h25
        have hsl := nsafe_le (p := p) hV k
        have hbl := nbin_le (S 0 0) (by omega) k (by omega)
        refine e_aload_n dX10_odds_32 rfl 0 rfl ?_
        refine e_iload_n dX10_odds_33 rfl 1 rfl ?_
        refine e_callVi dX10_odds_34 cvX10_256 rfl tt_0 rfl (c10_safeSets hp hV (e := k) (by omega) hC hK) (Nat.le_of_ble_eq_true rfl) (Nat.le_refl _) (Nat.le_refl _) rfl (Nat.le_of_ble_eq_true rfl) (fun r34 s34 m34 q34 => ?_)
        obtain ⟨q34, e34, g34⟩ := q34
        rw [e34, g34]
        clear e34 g34 s34 m34
        refine e_aload_n dX10_odds_37 rfl 0 rfl ?_
        refine e_iload_n dX10_odds_38 rfl 1 rfl ?_
        refine e_callVi dX10_odds_39 cvX10_259 rfl tt_0 rfl (c10_allSets hV (e := k) (by omega) hC) (Nat.le_of_ble_eq_true rfl) (Nat.le_refl _) (Nat.le_refl _) rfl (Nat.le_of_ble_eq_true rfl) (fun r39 s39 m39 q39 => ?_)
        obtain ⟨q39, e39, g39⟩ := q39
        rw [e39, g39]
        clear e39 g39 s39 m39
        refine e_iload_n dX10_odds_42 rfl 2 rfl ?_
        rw [q34, q39]
        refine e_callSl dX10_odds_43 cvX10_322 rfl (c10_partOf (a := nsafe p S k) (b := nbin (S 0 0) k 0 1) (w := w) (by omega) (by omega) (by rw [← nany_eq hV hk]; exact Nat.pos_of_ne_zero (fun q => by have := (nany_pos hV hk).mp q; omega))) (Nat.le_of_ble_eq_true rfl) (Nat.le_refl _) (Nat.le_refl _) rfl (Nat.le_of_ble_eq_true rfl) (fun r43 s43 m43 q43 => ?_)
        obtain ⟨q43, e43, g43⟩ := q43
        rw [e43, g43]
        clear e43 g43 s43 m43
        refine e_retl dX10_odds_46 (Nat.le_refl _) (Nat.le_refl _) ?_
        exact ⟨by rw [q43, nodds_yes hk hle hw, nany_eq hV hk], rfl, rfl⟩
      · skip
        rw [q22] at h25
        have hw : ¬ (w = 0 ∨ w = 1) := bI_eq0.mp (by simpa using h25)
        refine e_ldc2 dX10_odds_28 kcX10_294 ?_
        refine e_retl dX10_odds_31 (Nat.le_refl _) (Nat.le_refl _) ?_
        exact ⟨(nodds_no (fun q => hw q.2.2)).symm, rfl, rfl⟩

set_option maxRecDepth 100000 in
theorem c11_odds {p : Nat} (hp : gP p) {S : ns_T} (hV : VS S) {e w : Int32} {σ : ex_S} {μ : ex_L}(hF : FR σ p) (hR : NR σ S) : Cg 9 yX11_odds cX11_odds 3 (some .long) [.ref 127, .int e, .int w] TT σ μ (fun z' σ' μ' => z' = nodds p S e w ∧ FrM σ σ' ∧ μ' = μ) := by
  refine Cl_of (by decide +kernel) (Nat.le_of_ble_eq_true rfl) ?_
  show Ev RX11 cX11_odds 3 9 0 0 "odds" (some .long) ev_ext _ _ 0 0 0 [(0, .ref 127), (1, .int e), (2, .int w)] [] TT σ μ
  have hn := hV.1
  have h2n := two_n hV
  refine e_iload_n dX11_odds_0 rfl 1 rfl ?_
  refine e_iconst (v := 0) dX11_odds_1 rfl ?_
  refine e_bipush (v := 10) dX11_odds_2 rfl ?_
  refine e_callSi dX11_odds_4 cvX11_99 rfl (c11_within e 0 10) (Nat.le_of_ble_eq_true rfl) (Nat.le_refl _) (Nat.le_refl _) rfl (Nat.le_of_ble_eq_true rfl) (fun r4 s4 m4 q4 => ?_)
  obtain ⟨q4, e4, g4⟩ := q4
  rw [e4, g4]
  clear e4 g4 s4 m4
  refine e_if_eq (t := 28) dX11_odds_7 (by decide) (fun h7 => ?_) (fun h7 => ?_)
  · skip
    rw [q4, bI_eq0] at h7
    refine e_ldc2 dX11_odds_28 kcX11_260 ?_
    refine e_retl dX11_odds_31 (Nat.le_refl _) (Nat.le_refl _) ?_
    exact ⟨(nodds_no (fun q => h7 q.1)).symm, FrM.rf, rfl⟩
  · skip
    rw [q4, bI_eq0] at h7
    have hP := Classical.not_not.mp h7
    obtain ⟨k, hk, rfl⟩ := i_of (x := e) (m := 10) (by omega) hP.1 (show _ ≤ nI (10) from hP.2)
    refine e_iload_n dX11_odds_10 rfl 2 rfl ?_
    refine e_iconst (v := 0) dX11_odds_11 rfl ?_
    refine e_iconst (v := 1) dX11_odds_12 rfl ?_
    refine e_callSi dX11_odds_13 cvX11_99 rfl (c11_within w 0 1) (Nat.le_of_ble_eq_true rfl) (Nat.le_refl _) (Nat.le_refl _) rfl (Nat.le_of_ble_eq_true rfl) (fun r13 s13 m13 q13 => ?_)
    obtain ⟨q13, e13, g13⟩ := q13
    rw [e13, g13]
    clear e13 g13 s13 m13
    refine e_if_eq (t := 28) dX11_odds_16 (by decide) (fun h16 => ?_) (fun h16 => ?_)
    · skip
      rw [q13, bI_eq0] at h16
      have hw : ¬ (w = 0 ∨ w = 1) := fun q => h16 (i01' q)
      refine e_ldc2 dX11_odds_28 kcX11_260 ?_
      refine e_retl dX11_odds_31 (Nat.le_refl _) (Nat.le_refl _) ?_
      exact ⟨(nodds_no (fun q => hw q.2.2)).symm, FrM.rf, rfl⟩
    · skip
      rw [q13, bI_eq0] at h16
      have hP2 := Classical.not_not.mp h16
      have hw := i01 hP2
      refine e_aload_n dX11_odds_19 rfl 0 rfl ?_
      refine e_iload_n dX11_odds_20 rfl 1 rfl ?_
      refine e_iconst (v := 1) dX11_odds_21 rfl ?_
      refine e_callVi dX11_odds_22 cvX11_235 rfl tt_127 rfl (c11_anyOf hp hV (e := k) (by omega) hF hR) (Nat.le_of_ble_eq_true rfl) (Nat.le_refl _) (Nat.le_refl _) rfl (Nat.le_of_ble_eq_true rfl) (fun r22 s22 m22 q22 => ?_)
      obtain ⟨q22, a1, a2⟩ := q22
      rw [a2]
      have ha := Nat.le_trans (ncnt_le (fun t => npop t = k) (2 ^ S 0 0)) h2n
      have ha : nany S k ≤ 1024 := ha
      refine e_if_ne (t := 32) dX11_odds_25 (by decide) (fun h25 => ?_) (fun h25 => ?_)
      · skip
        have hnz : nany S k ≠ 0 := fun q => h25 (by rw [q22, q]; rfl)
        have hle : k ≤ S 0 0 := Nat.not_lt.mp (fun q => hnz ((nany_pos hV hk).mpr q))
        refine e_aload_n dX11_odds_32 rfl 0 rfl ?_
        refine e_iload_n dX11_odds_33 rfl 1 rfl ?_
        refine e_iconst (v := 0) dX11_odds_34 rfl ?_
        refine e_callVi dX11_odds_35 cvX11_235 rfl tt_127 rfl (c11_safeOf hp hV (e := k) (by omega) (hF.to a1) (hR.to a1)) (Nat.le_of_ble_eq_true rfl) (Nat.le_refl _) (Nat.le_refl _) rfl (Nat.le_of_ble_eq_true rfl) (fun r35 s35 m35 q35 => ?_)
        obtain ⟨q35, b1, b2⟩ := q35
        rw [b2]
        rw [q35]
        refine e_i2l dX11_odds_38 ?_
        refine e_aload_n dX11_odds_39 rfl 0 rfl ?_
        refine e_iload_n dX11_odds_40 rfl 1 rfl ?_
        refine e_iconst (v := 1) dX11_odds_41 rfl ?_
        refine e_callVi dX11_odds_42 cvX11_235 rfl tt_127 rfl (c11_anyOf hp hV (e := k) (by omega) (hF.to (a1.tr b1)) (hR.to (a1.tr b1))) (Nat.le_of_ble_eq_true rfl) (Nat.le_refl _) (Nat.le_refl _) rfl (Nat.le_of_ble_eq_true rfl) (fun r42 s42 m42 q42 => ?_)
        obtain ⟨q42, c1, c2⟩ := q42
        rw [c2]
        rw [q42]
        refine e_i2l dX11_odds_45 ?_
        refine e_iload_n dX11_odds_46 rfl 2 rfl ?_
        rw [nI_l (show nsafe p S k < 2 ^ 31 by have := nsafe_le (p := p) hV k; omega), nI_l (show nany S k < 2 ^ 31 by omega)]
        refine e_callSl dX11_odds_47 cvX11_272 rfl (c11_part (a := nsafe p S k) (b := nany S k) (w := w) (by have := nsafe_le (p := p) hV k; omega) (by omega) (Nat.pos_of_ne_zero hnz)) (Nat.le_of_ble_eq_true rfl) (Nat.le_refl _) (Nat.le_refl _) rfl (Nat.le_of_ble_eq_true rfl) (fun r47 s47 m47 q47 => ?_)
        obtain ⟨q47, e47, g47⟩ := q47
        rw [e47, g47]
        clear e47 g47 s47 m47
        refine e_retl dX11_odds_50 (Nat.le_refl _) (Nat.le_refl _) ?_
        exact ⟨by rw [q47, nodds_yes hk hle hw], (a1.tr b1).tr c1, rfl⟩
      · skip
        have hz : nany S k = 0 := by
          rw [q22] at h25
          exact (i_eq (by omega) (by decide)).mp (show nI (nany S k) = nI 0 from h25)
        have hlt := (nany_pos hV hk).mp hz
        refine e_ldc2 dX11_odds_28 kcX11_260 ?_
        refine e_retl dX11_odds_31 (Nat.le_refl _) (Nat.le_refl _) ?_
        exact ⟨(nodds_no (fun q => by
          have := q.2.1
          rw [i_cl (by omega)] at this
          omega)).symm, a1, rfl⟩

noncomputable def nrank (p : Nat) (S : ns_T) (t : Int32) : Int32 := if 0 ≤ t ∧ t ≤ nI (nall S) then nI (nrk p S t.toNatClampNeg) else -1
noncomputable def nsafeI (p : Nat) (S : ns_T) (e : Int32) : Int32 := if 0 ≤ e ∧ e ≤ 10 then nI (nsafe p S e.toNatClampNeg) else -2
theorem nrank_yes {p : Nat} {S : ns_T} (hV : VS S) {k : Nat} (h : k ≤ nall S) : nrank p S (nI k) = nI (nrk p S k) := by
  have := nall_lt hV
  unfold nrank
  rw [i_cl (by omega)]
  exact if_pos ⟨i_nn (by omega), (i_le (by omega) (by omega)).mpr h⟩
theorem nsafeI_yes {p : Nat} {S : ns_T} {k : Nat} (h : k ≤ 10) : nsafeI p S (nI k) = nI (nsafe p S k) := by
  unfold nsafeI
  rw [i_cl (by omega)]
  exact if_pos ⟨i_nn (by omega), (i_le (by omega) (by decide)).mpr h⟩
theorem nall_2 {S : ns_T} {k : Nat} : k ≤ nall S ↔ k < 2 ^ S 0 0 := by
  unfold nall
  have := Nat.two_pow_pos (S 0 0)
  omega

set_option maxRecDepth 100000 in
theorem c10_rank {p : Nat} (hp : gP p) {S : ns_T} (hV : VS S) {t : Int32} {σ : ex_S} {μ : ex_L}(hC : NC σ 33 S) (hK : RKI σ p S) : Ci 7 yX10_rank cX10_rank 2 (some .int) [.ref 0, .int t] TT σ μ (fun z' σ' μ' => z' = nrank p S t ∧ σ' = σ ∧ μ' = μ) := by
  refine Cl_of (by decide +kernel) (Nat.le_of_ble_eq_true rfl) ?_
  show Ev RX10 cX10_rank 2 7 0 0 "rank" (some .int) ev_ext _ _ 0 0 0 [(0, .ref 0), (1, .int t)] [] TT σ μ
  have hn := hV.1
  have h2n := two_n hV
  have hal := nall_lt hV
  refine e_iload_n dX10_rank_0 rfl 1 rfl ?_
  refine e_if_lt (t := 18) dX10_rank_1 (by decide) (fun h1 => ?_) (fun h1 => ?_)
  · skip
    skip
    refine e_iconst (v := (-1)) dX10_rank_18 rfl ?_
    refine e_goto (t := 30) dX10_rank_19 (by decide) ?_
    refine e_reti dX10_rank_30 ev_nwi (Nat.le_refl _) (Nat.le_refl _) ?_
    exact ⟨(if_neg (fun q => by
      have a1 := Int32.lt_iff_toInt_lt.mp h1
      have a2 := Int32.le_iff_toInt_le.mp q.1
      omega)).symm, rfl, rfl⟩
  · skip
    refine e_iload_n dX10_rank_4 rfl 1 rfl ?_
    refine e_aload_n dX10_rank_5 rfl 0 rfl ?_
    refine e_getR dX10_rank_6 lkX10_46 tt_0 rfl ?_
    refine e_getR dX10_rank_9 lkX10_89 (store_0 store_32_) rfl ?_
    refine e_callVi dX10_rank_12 cvX10_210 rfl (nodes_0 (store_n store_32_)) rfl (c3_everyoneN nodes_33_ hV hC) (Nat.le_of_ble_eq_true rfl) (Nat.le_refl _) (Nat.le_refl _) rfl (Nat.le_of_ble_eq_true rfl) (fun r12 s12 m12 q12 => ?_)
    obtain ⟨q12, e12, g12⟩ := q12
    rw [e12, g12]
    clear e12 g12 s12 m12
    refine e_icmp_le (t := 22) dX10_rank_15 (by decide) (fun h15 => ?_) (fun h15 => ?_)
    · skip
      rw [q12] at h15
      have h0 := fa_of_nlt h1
      obtain ⟨k, hk, rfl⟩ := i_of (x := t) (m := nall S) (by omega) h0 (show _ ≤ nI (nall S) from h15)
      refine e_aload_n dX10_rank_22 rfl 0 rfl ?_
      refine e_getR dX10_rank_23 lkX10_30 tt_0 rfl ?_
      refine e_iload_n dX10_rank_26 rfl 1 rfl ?_
      refine e_callVi dX10_rank_27 cvX10_244 rfl tt_5 rfl (c6_rankN hp hV (t := k) (nall_2.mp hk) hK) (Nat.le_of_ble_eq_true rfl) (Nat.le_refl _) (Nat.le_refl _) rfl (Nat.le_of_ble_eq_true rfl) (fun r27 s27 m27 q27 => ?_)
      obtain ⟨q27, e27, g27⟩ := q27
      rw [e27, g27]
      clear e27 g27 s27 m27
      refine e_reti dX10_rank_30 ev_nwi (Nat.le_refl _) (Nat.le_refl _) ?_
      exact ⟨by rw [q27, nrank_yes hV hk], rfl, rfl⟩
    · skip
      rw [q12] at h15
      refine e_iconst (v := (-1)) dX10_rank_18 rfl ?_
      refine e_goto (t := 30) dX10_rank_19 (by decide) ?_
      refine e_reti dX10_rank_30 ev_nwi (Nat.le_refl _) (Nat.le_refl _) ?_
      exact ⟨(if_neg (fun q => h15 q.2)).symm, rfl, rfl⟩

set_option maxRecDepth 100000 in
theorem c11_rank {p : Nat} (hp : gP p) {S : ns_T} (hV : VS S) {t : Int32} {σ : ex_S} {μ : ex_L}(hF : FR σ p) (hR : NR σ S) : Ci 9 yX11_rank cX11_rank 2 (some .int) [.ref 127, .int t] TT σ μ (fun z' σ' μ' => z' = nrank p S t ∧ FrM σ σ' ∧ μ' = μ) := by
  refine Cl_of (by decide +kernel) (Nat.le_of_ble_eq_true rfl) ?_
  show Ev RX11 cX11_rank 2 9 0 0 "rank" (some .int) ev_ext _ _ 0 0 0 [(0, .ref 127), (1, .int t)] [] TT σ μ
  have hn := hV.1
  have h2n := two_n hV
  have hal := nall_lt hV
  refine e_iload_n dX11_rank_0 rfl 1 rfl ?_
  refine e_iconst (v := 0) dX11_rank_1 rfl ?_
  refine e_aload_n dX11_rank_2 rfl 0 rfl ?_
  refine e_callVi dX11_rank_3 cvX11_229 rfl tt_127 rfl (c11_allN hV hR) (Nat.le_of_ble_eq_true rfl) (Nat.le_refl _) (Nat.le_refl _) rfl (Nat.le_of_ble_eq_true rfl) (fun r3 s3 m3 q3 => ?_)
  obtain ⟨q3, e3, g3⟩ := q3
  rw [e3, g3]
  clear e3 g3 s3 m3
  rw [q3]
  refine e_callSi dX11_rank_6 cvX11_99 rfl (c11_within t 0 (nI (nall S))) (Nat.le_of_ble_eq_true rfl) (Nat.le_refl _) (Nat.le_refl _) rfl (Nat.le_of_ble_eq_true rfl) (fun r6 s6 m6 q6 => ?_)
  obtain ⟨q6, e6, g6⟩ := q6
  rw [e6, g6]
  clear e6 g6 s6 m6
  refine e_if_eq (t := 20) dX11_rank_9 (by decide) (fun h9 => ?_) (fun h9 => ?_)
  · skip
    rw [q6, bI_eq0] at h9
    refine e_iconst (v := (-1)) dX11_rank_20 rfl ?_
    refine e_reti dX11_rank_21 ev_nwi (Nat.le_refl _) (Nat.le_refl _) ?_
    exact ⟨(if_neg h9).symm, FrM.rf, rfl⟩
  · skip
    rw [q6, bI_eq0] at h9
    have hP := Classical.not_not.mp h9
    obtain ⟨k, hk, rfl⟩ := i_of (x := t) (m := nall S) (by omega) hP.1 (show _ ≤ nI (nall S) from hP.2)
    refine e_aload_n dX11_rank_12 rfl 0 rfl ?_
    refine e_iload_n dX11_rank_13 rfl 1 rfl ?_
    refine e_callVi dX11_rank_14 cvX11_215 rfl tt_127 rfl (c11_rankOf hp hV (t := k) (by omega) hF hR) (Nat.le_of_ble_eq_true rfl) (Nat.le_refl _) (Nat.le_refl _) rfl (Nat.le_of_ble_eq_true rfl) (fun r14 s14 m14 q14 => ?_)
    obtain ⟨q14, a1, a2⟩ := q14
    rw [a2]
    refine e_goto (t := 21) dX11_rank_17 (by decide) ?_
    refine e_reti dX11_rank_21 ev_nwi (Nat.le_refl _) (Nat.le_refl _) ?_
    exact ⟨by rw [q14, nrank_yes hV hk], a1, rfl⟩

set_option maxRecDepth 100000 in
theorem c10_safe {p : Nat} (hp : gP p) {S : ns_T} (hV : VS S) {e : Int32} {σ : ex_S} {μ : ex_L}(hC : NC σ 33 S) (hK : RKI σ p S) : Ci 7 yX10_safe cX10_safe 2 (some .int) [.ref 0, .int e] TT σ μ (fun z' σ' μ' => z' = nsafeI p S e ∧ σ' = σ ∧ μ' = μ) := by
  refine Cl_of (by decide +kernel) (Nat.le_of_ble_eq_true rfl) ?_
  show Ev RX10 cX10_safe 2 7 0 0 "safe" (some .int) ev_ext _ _ 0 0 0 [(0, .ref 0), (1, .int e)] [] TT σ μ
  refine e_iload_n dX10_safe_0 rfl 1 rfl ?_
  refine e_callSi dX10_safe_1 cvX10_262 rfl (c10_isSetSize e) (Nat.le_of_ble_eq_true rfl) (Nat.le_refl _) (Nat.le_refl _) rfl (Nat.le_of_ble_eq_true rfl) (fun r1 s1 m1 q1 => ?_)
  obtain ⟨q1, e1, g1⟩ := q1
  rw [e1, g1]
  clear e1 g1 s1 m1
  refine e_if_eq (t := 15) dX10_safe_4 (by decide) (fun h4 => ?_) (fun h4 => ?_)
  · skip
    rw [q1, bI_eq0] at h4
    refine e_bipush (v := (-2)) dX10_safe_15 rfl ?_
    refine e_reti dX10_safe_17 ev_nwi (Nat.le_refl _) (Nat.le_refl _) ?_
    exact ⟨(if_neg h4).symm, rfl, rfl⟩
  · skip
    rw [q1, bI_eq0] at h4
    have hP := Classical.not_not.mp h4
    obtain ⟨k, hk, rfl⟩ := i_of (x := e) (m := 10) (by omega) hP.1 (show _ ≤ nI (10) from hP.2)
    refine e_aload_n dX10_safe_7 rfl 0 rfl ?_
    refine e_iload_n dX10_safe_8 rfl 1 rfl ?_
    refine e_callVi dX10_safe_9 cvX10_256 rfl tt_0 rfl (c10_safeSets hp hV (e := k) (by omega) hC hK) (Nat.le_of_ble_eq_true rfl) (Nat.le_refl _) (Nat.le_refl _) rfl (Nat.le_of_ble_eq_true rfl) (fun r9 s9 m9 q9 => ?_)
    obtain ⟨q9, e9, g9⟩ := q9
    rw [e9, g9]
    clear e9 g9 s9 m9
    refine e_goto (t := 17) dX10_safe_12 (by decide) ?_
    refine e_reti dX10_safe_17 ev_nwi (Nat.le_refl _) (Nat.le_refl _) ?_
    exact ⟨by rw [q9, nsafeI_yes hk], rfl, rfl⟩

set_option maxRecDepth 100000 in
theorem c11_safe {p : Nat} (hp : gP p) {S : ns_T} (hV : VS S) {e : Int32} {σ : ex_S} {μ : ex_L}(hF : FR σ p) (hR : NR σ S) : Ci 9 yX11_safe cX11_safe 2 (some .int) [.ref 127, .int e] TT σ μ (fun z' σ' μ' => z' = nsafeI p S e ∧ FrM σ σ' ∧ μ' = μ) := by
  refine Cl_of (by decide +kernel) (Nat.le_of_ble_eq_true rfl) ?_
  show Ev RX11 cX11_safe 2 9 0 0 "safe" (some .int) ev_ext _ _ 0 0 0 [(0, .ref 127), (1, .int e)] [] TT σ μ
  refine e_iload_n dX11_safe_0 rfl 1 rfl ?_
  refine e_iconst (v := 0) dX11_safe_1 rfl ?_
  refine e_bipush (v := 10) dX11_safe_2 rfl ?_
  refine e_callSi dX11_safe_4 cvX11_99 rfl (c11_within e 0 10) (Nat.le_of_ble_eq_true rfl) (Nat.le_refl _) (Nat.le_refl _) rfl (Nat.le_of_ble_eq_true rfl) (fun r4 s4 m4 q4 => ?_)
  obtain ⟨q4, e4, g4⟩ := q4
  rw [e4, g4]
  clear e4 g4 s4 m4
  refine e_if_eq (t := 19) dX11_safe_7 (by decide) (fun h7 => ?_) (fun h7 => ?_)
  · skip
    rw [q4, bI_eq0] at h7
    refine e_bipush (v := (-2)) dX11_safe_19 rfl ?_
    refine e_reti dX11_safe_21 ev_nwi (Nat.le_refl _) (Nat.le_refl _) ?_
    exact ⟨(if_neg h7).symm, FrM.rf, rfl⟩
  · skip
    rw [q4, bI_eq0] at h7
    have hP := Classical.not_not.mp h7
    obtain ⟨k, hk, rfl⟩ := i_of (x := e) (m := 10) (by omega) hP.1 (show _ ≤ nI (10) from hP.2)
    refine e_aload_n dX11_safe_10 rfl 0 rfl ?_
    refine e_iload_n dX11_safe_11 rfl 1 rfl ?_
    refine e_iconst (v := 0) dX11_safe_12 rfl ?_
    refine e_callVi dX11_safe_13 cvX11_235 rfl tt_127 rfl (c11_safeOf hp hV (e := k) (by omega) hF hR) (Nat.le_of_ble_eq_true rfl) (Nat.le_refl _) (Nat.le_refl _) rfl (Nat.le_of_ble_eq_true rfl) (fun r13 s13 m13 q13 => ?_)
    obtain ⟨q13, a1, a2⟩ := q13
    rw [a2]
    refine e_goto (t := 21) dX11_safe_16 (by decide) ?_
    refine e_reti dX11_safe_21 ev_nwi (Nat.le_refl _) (Nat.le_refl _) ?_
    exact ⟨by rw [q13, nsafeI_yes hk], a1, rfl⟩
