theorem lt_6 {q : Int32} : q < 6 ↔ q ≤ 5 := by
  rw [Int32.lt_iff_toInt_lt, Int32.le_iff_toInt_le]
  have : (6 : Int32).toInt = 6 := by decide
  have : (5 : Int32).toInt = 5 := by decide
  omega
theorem h05 {k : Nat} (hk : k ≤ 5) : 0 ≤ nI k ∧ nI k ≤ 5 := ⟨i_nn (by omega), (i_le (b := 5) (by omega) (by decide)).mpr hk⟩

set_option maxRecDepth 100000 in
theorem c9_has {x : Int32} {σ : ex_S} {μ : ex_L} : Ci 2 yX9_has cX9_has 1 (some .boolean) [.int x] TT σ μ (fun z' σ' μ' => z' = bI (0 ≤ x ∧ x ≤ 5) ∧ σ' = σ ∧ μ' = μ) := by
  refine Cl_of (by decide +kernel) (Nat.le_of_ble_eq_true rfl) ?_
  show Ev RX9 cX9_has 1 2 0 0 "has" (some .boolean) ev_ext _ _ 0 0 0 [(0, .int x)] [] TT σ μ
  refine e_iload_n dX9_has_0 rfl 0 rfl ?_
  refine e_if_lt (t := 14) dX9_has_1 (by decide) (fun h1 => ?_) (fun h1 => ?_)
  · skip
    refine e_iconst (v := 0) dX9_has_14 rfl ?_
    refine e_reti dX9_has_15 ev_nw0 (Nat.le_refl _) (Nat.le_refl _) ?_
    refine ⟨?_, rfl, rfl⟩
    first
      | (exact (bI_f (fun q => by have := lt_6.mpr q.2; simp only [Int32.le_iff_toInt_le, Int32.lt_iff_toInt_lt] at *; omega)).symm)
      | (exact (bI_t ⟨by simp only [Int32.le_iff_toInt_le, Int32.lt_iff_toInt_lt] at *; omega, lt_6.mp (by simp only [Int32.le_iff_toInt_le, Int32.lt_iff_toInt_lt] at *; omega)⟩).symm)
  · skip
    refine e_iload_n dX9_has_4 rfl 0 rfl ?_
    refine e_bipush (v := 6) dX9_has_5 rfl ?_
    refine e_icmp_ge (t := 14) dX9_has_7 (by decide) (fun h7 => ?_) (fun h7 => ?_)
    · skip
      refine e_iconst (v := 0) dX9_has_14 rfl ?_
      refine e_reti dX9_has_15 ev_nw0 (Nat.le_refl _) (Nat.le_refl _) ?_
      refine ⟨?_, rfl, rfl⟩
      first
        | (exact (bI_f (fun q => by have := lt_6.mpr q.2; simp only [Int32.le_iff_toInt_le, Int32.lt_iff_toInt_lt] at *; omega)).symm)
        | (exact (bI_t ⟨by simp only [Int32.le_iff_toInt_le, Int32.lt_iff_toInt_lt] at *; omega, lt_6.mp (by simp only [Int32.le_iff_toInt_le, Int32.lt_iff_toInt_lt] at *; omega)⟩).symm)
    · skip
      refine e_iconst (v := 1) dX9_has_10 rfl ?_
      refine e_goto (t := 15) dX9_has_11 (by decide) ?_
      refine e_reti dX9_has_15 ev_nw1 (Nat.le_refl _) (Nat.le_refl _) ?_
      refine ⟨?_, rfl, rfl⟩
      first
        | (exact (bI_f (fun q => by have := lt_6.mpr q.2; simp only [Int32.le_iff_toInt_le, Int32.lt_iff_toInt_lt] at *; omega)).symm)
        | (exact (bI_t ⟨by simp only [Int32.le_iff_toInt_le, Int32.lt_iff_toInt_lt] at *; omega, lt_6.mp (by simp only [Int32.le_iff_toInt_le, Int32.lt_iff_toInt_lt] at *; omega)⟩).symm)

set_option maxRecDepth 100000 in
theorem c9_hasItem {t : tp_T} (hV : TPV t) {x i : Int32} {σ : ex_S} {μ : ex_L}(hC : TPC σ μ t) : Ci 3 yX9_hasItem cX9_hasItem 3 (some .boolean) [.ref 117, .int x, .int i] TT σ μ (fun z' σ' μ' => z' = bI ((0 ≤ x ∧ x ≤ 5) ∧ 0 ≤ i ∧ i < nI (t.2.1 x.toNatClampNeg)) ∧ σ' = σ ∧ μ' = μ) := by
  refine Cl_of (by decide +kernel) (Nat.le_of_ble_eq_true rfl) ?_
  show Ev RX9 cX9_hasItem 3 3 0 0 "hasItem" (some .boolean) ev_ext _ _ 0 0 0 [(0, .ref 117), (1, .int x), (2, .int i)] [] TT σ μ
  refine e_iload_n dX9_hasItem_0 rfl 1 rfl ?_
  refine e_callSi dX9_hasItem_1 cvX9_21 rfl (c9_has (x := x)) (Nat.le_of_ble_eq_true rfl) (Nat.le_refl _) (Nat.le_refl _) rfl (Nat.le_of_ble_eq_true rfl) (fun r1 s1 m1 q1 => ?_)
  obtain ⟨q1, e1, g1⟩ := q1
  rw [e1, g1]
  clear e1 g1 s1 m1
  refine e_if_eq (t := 25) dX9_hasItem_4 (by decide) (fun h4 => ?_) (fun h4 => ?_)
  · skip
    rw [q1, bI_eq0] at h4
    refine e_iconst (v := 0) dX9_hasItem_25 rfl ?_
    refine e_reti dX9_hasItem_26 ev_nw0 (Nat.le_refl _) (Nat.le_refl _) ?_
    refine ⟨?_, rfl, rfl⟩
    exact (bI_f (fun q => h4 q.1)).symm
  · skip
    rw [q1, bI_eq0] at h4
    have hP := Classical.not_not.mp h4
    obtain ⟨k, hk, rfl⟩ := i_of (x := x) (m := 5) (by omega) hP.1 (show _ ≤ nI (5) from hP.2)
    refine e_iload_n dX9_hasItem_7 rfl 2 rfl ?_
    refine e_if_lt (t := 25) dX9_hasItem_8 (by decide) (fun h8 => ?_) (fun h8 => ?_)
    · skip
      skip
      refine e_iconst (v := 0) dX9_hasItem_25 rfl ?_
      refine e_reti dX9_hasItem_26 ev_nw0 (Nat.le_refl _) (Nat.le_refl _) ?_
      refine ⟨?_, rfl, rfl⟩
      exact (bI_f (fun q => nlt_0 h8 q.2.1)).symm
    · skip
      have h0 := fa_of_nlt h8
      refine e_iload_n dX9_hasItem_11 rfl 2 rfl ?_
      refine e_aload_n dX9_hasItem_12 rfl 0 rfl ?_
      refine e_getR dX9_hasItem_13 lkX9_13 tt_117 rfl ?_
      refine e_iload_n dX9_hasItem_16 rfl 1 rfl ?_
      refine e_iald dX9_hasItem_17 tt_119 (vp_in_nI (by omega) (by decide)) ?_
      rw [i_cl (by omega), (hC k (by omega)).2.1]
      refine e_icmp_ge (t := 25) dX9_hasItem_18 (by decide) (fun h18 => ?_) (fun h18 => ?_)
      · skip
        skip
        refine e_iconst (v := 0) dX9_hasItem_25 rfl ?_
        refine e_reti dX9_hasItem_26 ev_nw0 (Nat.le_refl _) (Nat.le_refl _) ?_
        refine ⟨?_, rfl, rfl⟩
        exact (bI_f (fun q => Int32.not_le.mpr q.2.2 h18)).symm
      · skip
        refine e_iconst (v := 1) dX9_hasItem_21 rfl ?_
        refine e_goto (t := 26) dX9_hasItem_22 (by decide) ?_
        refine e_reti dX9_hasItem_26 ev_nw1 (Nat.le_refl _) (Nat.le_refl _) ?_
        refine ⟨?_, rfl, rfl⟩
        exact (bI_t ⟨h05 hk, h0, Int32.not_le.mp h18⟩).symm

set_option maxRecDepth 100000 in
theorem c9_hasRun {t : tp_T} (hV : TPV t) {k : Nat} (hk : k ≤ 5) {i n : Int32} {σ : ex_S} {μ : ex_L}(hC : TPC σ μ t) : Ci 4 yX9_hasRun cX9_hasRun 4 (some .boolean) [.ref 117, .int (nI k), .int i, .int n] TT σ μ (fun z' σ' μ' => ((z' = 1 ∧ Run i n (t.2.1 k)) ∨ (z' = 0 ∧ ¬ Run i n (t.2.1 k))) ∧ σ' = σ ∧ μ' = μ) := by
  refine Cl_of (by decide +kernel) (Nat.le_of_ble_eq_true rfl) ?_
  show Ev RX9 cX9_hasRun 4 4 0 0 "hasRun" (some .boolean) ev_ext _ _ 0 0 0 [(0, .ref 117), (1, .int (nI k)), (2, .int i), (3, .int n)] [] TT σ μ
  have hz := (hV k (by omega)).1
  refine e_iload_n dX9_hasRun_0 rfl 1 rfl ?_
  refine e_callSi dX9_hasRun_1 cvX9_21 rfl (c9_has (x := nI k)) (Nat.le_of_ble_eq_true rfl) (Nat.le_refl _) (Nat.le_refl _) rfl (Nat.le_of_ble_eq_true rfl) (fun r1 s1 m1 q1 => ?_)
  obtain ⟨q1, e1, g1⟩ := q1
  rw [e1, g1]
  clear e1 g1 s1 m1
  refine e_if_eq (t := 31) dX9_hasRun_4 (by decide) (fun h4 => ?_) (fun h4 => ?_)
  · skip
    rw [q1, bI_eq0] at h4
    exact absurd (h05 hk) h4
  · skip
    refine e_iload_n dX9_hasRun_7 rfl 3 rfl ?_
    refine e_if_lt (t := 31) dX9_hasRun_8 (by decide) (fun h8 => ?_) (fun h8 => ?_)
    · skip
      skip
      refine e_iconst (v := 0) dX9_hasRun_31 rfl ?_
      refine e_reti dX9_hasRun_32 ev_nw0 (Nat.le_refl _) (Nat.le_refl _) ?_
      exact ⟨Or.inr ⟨rfl, fun q => nlt_0 h8 q.1⟩, rfl, rfl⟩
    · skip
      refine e_iload_n dX9_hasRun_11 rfl 2 rfl ?_
      refine e_if_lt (t := 31) dX9_hasRun_12 (by decide) (fun h12 => ?_) (fun h12 => ?_)
      · skip
        skip
        refine e_iconst (v := 0) dX9_hasRun_31 rfl ?_
        refine e_reti dX9_hasRun_32 ev_nw0 (Nat.le_refl _) (Nat.le_refl _) ?_
        exact ⟨Or.inr ⟨rfl, fun q => nlt_0 h12 q.2.1⟩, rfl, rfl⟩
      · skip
        have hrun := run_i (i := i) (n := n) hz (fa_of_nlt h8) (fa_of_nlt h12)
        refine e_iload_n dX9_hasRun_15 rfl 2 rfl ?_
        refine e_aload_n dX9_hasRun_16 rfl 0 rfl ?_
        refine e_getR dX9_hasRun_17 lkX9_13 tt_117 rfl ?_
        refine e_iload_n dX9_hasRun_20 rfl 1 rfl ?_
        refine e_iald dX9_hasRun_21 tt_119 (vp_in_nI (by omega) (by decide)) ?_
        refine e_iload_n dX9_hasRun_22 rfl 3 rfl ?_
        rw [i_cl (by omega), (hC k (by omega)).2.1]
        refine e_isub dX9_hasRun_23 ?_
        refine e_icmp_gt (t := 31) dX9_hasRun_24 (by decide) (fun h24 => ?_) (fun h24 => ?_)
        · skip
          skip
          refine e_iconst (v := 0) dX9_hasRun_31 rfl ?_
          refine e_reti dX9_hasRun_32 ev_nw0 (Nat.le_refl _) (Nat.le_refl _) ?_
          exact ⟨Or.inr ⟨rfl, fun q => by
              have a1 := Int32.le_iff_toInt_le.mp (hrun.mpr q)
              have a2 := Int32.lt_iff_toInt_lt.mp h24
              omega⟩, rfl, rfl⟩
        · skip
          refine e_iconst (v := 1) dX9_hasRun_27 rfl ?_
          refine e_goto (t := 32) dX9_hasRun_28 (by decide) ?_
          refine e_reti dX9_hasRun_32 ev_nw1 (Nat.le_refl _) (Nat.le_refl _) ?_
          exact ⟨Or.inl ⟨rfl, hrun.mp (fa_of_nlt h24)⟩, rfl, rfl⟩

set_option maxRecDepth 100000 in
theorem c9_cut {s : Int32} {v : Int64} (hs : ∃ u, u ≤ 4 ∧ s = nI u) {σ : ex_S} {μ : ex_L} : Cg 2 yX9_cut cX9_cut 3 (some .long) [.int s, .long v] TT σ μ (fun z' σ' μ' => z' = ncut s v ∧ σ' = σ ∧ μ' = μ) := by
  refine Cl_of (by decide +kernel) (Nat.le_of_ble_eq_true rfl) ?_
  show Ev RX9 cX9_cut 3 2 0 0 "cut" (some .long) ev_ext _ _ 0 0 0 [(0, .int s), (1, .long v)] [] TT σ μ
  refine e_iload_n dX9_cut_0 rfl 0 rfl ?_
  by_cases k1_0 : s = 0
  · rw [k1_0]
    refine e_tswIn (t := 36) dX9_cut_1 (by decide) (by decide) rfl (by decide) ?_
    refine e_lload_n dX9_cut_36 rfl 1 rfl ?_
    refine e_l2i dX9_cut_37 ?_
    refine e_i2b dX9_cut_38 ?_
    refine e_i2l dX9_cut_39 ?_
    refine e_retl dX9_cut_40 (Nat.le_refl _) (Nat.le_refl _) ?_
    refine ⟨?_, rfl, rfl⟩
    unfold ncut
    rw [if_pos rfl]
  by_cases k1_1 : s = 1
  · rw [k1_1]
    refine e_tswIn (t := 41) dX9_cut_1 (by decide) (by decide) rfl (by decide) ?_
    refine e_lload_n dX9_cut_41 rfl 1 rfl ?_
    refine e_l2i dX9_cut_42 ?_
    refine e_i2s dX9_cut_43 ?_
    refine e_i2l dX9_cut_44 ?_
    refine e_retl dX9_cut_45 (Nat.le_refl _) (Nat.le_refl _) ?_
    refine ⟨?_, rfl, rfl⟩
    unfold ncut
    rw [if_neg (by decide), if_pos rfl]
  by_cases k1_2 : s = 2
  · rw [k1_2]
    refine e_tswIn (t := 46) dX9_cut_1 (by decide) (by decide) rfl (by decide) ?_
    refine e_lload_n dX9_cut_46 rfl 1 rfl ?_
    refine e_l2i dX9_cut_47 ?_
    refine e_i2l dX9_cut_48 ?_
    refine e_retl dX9_cut_49 (Nat.le_refl _) (Nat.le_refl _) ?_
    refine ⟨?_, rfl, rfl⟩
    unfold ncut
    rw [if_neg (by decide), if_neg (by decide), if_pos rfl]
  by_cases k1_3 : s = 3
  · rw [k1_3]
    refine e_tswIn (t := 62) dX9_cut_1 (by decide) (by decide) rfl (by decide) ?_
    skip
    refine e_lload_n dX9_cut_62 rfl 1 rfl ?_
    refine e_retl dX9_cut_63 (Nat.le_refl _) (Nat.le_refl _) ?_
    refine ⟨?_, rfl, rfl⟩
    first
      | (unfold ncut; rw [if_neg (by decide), if_neg (by decide), if_neg (by decide), if_pos rfl])
      | (exfalso; obtain ⟨u, hu, e⟩ := hs; rcases (show u = 0 ∨ u = 1 ∨ u = 2 ∨ u = 3 ∨ u = 4 by omega) with rfl | rfl | rfl | rfl | rfl; exact k1_0 e; exact k1_1 e; exact k1_2 e; exact k1_3 e; exact k1_4 e)
  by_cases k1_4 : s = 4
  · rw [k1_4]
    refine e_tswIn (t := 50) dX9_cut_1 (by decide) (by decide) rfl (by decide) ?_
    refine e_lload_n dX9_cut_50 rfl 1 rfl ?_
    refine e_lconst (v := 0) dX9_cut_51 rfl ?_
    refine e_lcmp dX9_cut_52 ?_
    refine e_if_eq (t := 60) dX9_cut_53 (by decide) (fun h53 => ?_) (fun h53 => ?_)
    · skip
      refine e_lconst (v := 0) dX9_cut_60 rfl ?_
      refine e_retl dX9_cut_61 (Nat.le_refl _) (Nat.le_refl _) ?_
      refine ⟨?_, rfl, rfl⟩
      unfold ncut
      rw [if_neg (by decide), if_neg (by decide), if_neg (by decide), if_neg (by decide)]
      exact (if_pos (lcmp_eq0.mp h53)).symm
    · skip
      refine e_lconst (v := 1) dX9_cut_56 rfl ?_
      refine e_goto (t := 61) dX9_cut_57 (by decide) ?_
      refine e_retl dX9_cut_61 (Nat.le_refl _) (Nat.le_refl _) ?_
      refine ⟨?_, rfl, rfl⟩
      unfold ncut
      rw [if_neg (by decide), if_neg (by decide), if_neg (by decide), if_neg (by decide)]
      exact (if_neg (fun q => h53 (lcmp_eq0.mpr q))).symm
  refine e_tswOut (t := 62) dX9_cut_1 (by
      have a0 := i32_ne k1_0
      have b0 : (0 : Int32).toInt = 0 := by decide
      have a1 := i32_ne k1_1
      have b1 : (1 : Int32).toInt = 1 := by decide
      have a2 := i32_ne k1_2
      have b2 : (2 : Int32).toInt = 2 := by decide
      have a3 := i32_ne k1_3
      have b3 : (3 : Int32).toInt = 3 := by decide
      have a4 := i32_ne k1_4
      have b4 : (4 : Int32).toInt = 4 := by decide
      omega) (by decide) ?_
  skip
  refine e_lload_n dX9_cut_62 rfl 1 rfl ?_
  refine e_retl dX9_cut_63 (Nat.le_refl _) (Nat.le_refl _) ?_
  refine ⟨?_, rfl, rfl⟩
  first
    | (unfold ncut; rw [if_neg (by decide), if_neg (by decide), if_neg (by decide), if_pos rfl])
    | (exfalso; obtain ⟨u, hu, e⟩ := hs; rcases (show u = 0 ∨ u = 1 ∨ u = 2 ∨ u = 3 ∨ u = 4 by omega) with rfl | rfl | rfl | rfl | rfl; exact k1_0 e; exact k1_1 e; exact k1_2 e; exact k1_3 e; exact k1_4 e)

set_option maxRecDepth 100000 in
theorem c11_kept {s : Int32} {v : Int64} {σ : ex_S} {μ : ex_L} : Cg 2 yX11_kept cX11_kept 3 (some .long) [.int s, .long v] TT σ μ (fun z' σ' μ' => z' = ncut s v ∧ σ' = σ ∧ μ' = μ) := by
  refine Cl_of (by decide +kernel) (Nat.le_of_ble_eq_true rfl) ?_
  show Ev RX11 cX11_kept 3 2 0 0 "kept" (some .long) ev_ext _ _ 0 0 0 [(0, .int s), (1, .long v)] [] TT σ μ
  refine e_iload_n dX11_kept_0 rfl 0 rfl ?_
  by_cases k1_0 : s = 0
  · rw [k1_0]
    refine e_tswIn (t := 32) dX11_kept_1 (by decide) (by decide) rfl (by decide) ?_
    refine e_lload_n dX11_kept_32 rfl 1 rfl ?_
    refine e_l2i dX11_kept_33 ?_
    refine e_i2b dX11_kept_34 ?_
    refine e_i2l dX11_kept_35 ?_
    refine e_retl dX11_kept_36 (Nat.le_refl _) (Nat.le_refl _) ?_
    refine ⟨?_, rfl, rfl⟩
    unfold ncut
    rw [if_pos rfl]
  by_cases k1_1 : s = 1
  · rw [k1_1]
    refine e_tswIn (t := 37) dX11_kept_1 (by decide) (by decide) rfl (by decide) ?_
    refine e_lload_n dX11_kept_37 rfl 1 rfl ?_
    refine e_l2i dX11_kept_38 ?_
    refine e_i2s dX11_kept_39 ?_
    refine e_i2l dX11_kept_40 ?_
    refine e_retl dX11_kept_41 (Nat.le_refl _) (Nat.le_refl _) ?_
    refine ⟨?_, rfl, rfl⟩
    unfold ncut
    rw [if_neg (by decide), if_pos rfl]
  by_cases k1_2 : s = 2
  · rw [k1_2]
    refine e_tswIn (t := 42) dX11_kept_1 (by decide) (by decide) rfl (by decide) ?_
    refine e_lload_n dX11_kept_42 rfl 1 rfl ?_
    refine e_l2i dX11_kept_43 ?_
    refine e_i2l dX11_kept_44 ?_
    refine e_retl dX11_kept_45 (Nat.le_refl _) (Nat.le_refl _) ?_
    refine ⟨?_, rfl, rfl⟩
    unfold ncut
    rw [if_neg (by decide), if_neg (by decide), if_pos rfl]
  by_cases k1_3 : s = 3
  · rw [k1_3]
    refine e_tswIn (t := 46) dX11_kept_1 (by decide) (by decide) rfl (by decide) ?_
    refine e_lload_n dX11_kept_46 rfl 1 rfl ?_
    refine e_retl dX11_kept_47 (Nat.le_refl _) (Nat.le_refl _) ?_
    refine ⟨?_, rfl, rfl⟩
    unfold ncut
    rw [if_neg (by decide), if_neg (by decide), if_neg (by decide), if_pos rfl]
  refine e_tswOut (t := 48) dX11_kept_1 (by
      have a0 := i32_ne k1_0
      have b0 : (0 : Int32).toInt = 0 := by decide
      have a1 := i32_ne k1_1
      have b1 : (1 : Int32).toInt = 1 := by decide
      have a2 := i32_ne k1_2
      have b2 : (2 : Int32).toInt = 2 := by decide
      have a3 := i32_ne k1_3
      have b3 : (3 : Int32).toInt = 3 := by decide
      omega) (by decide) ?_
  refine e_lload_n dX11_kept_48 rfl 1 rfl ?_
  refine e_lconst (v := 0) dX11_kept_49 rfl ?_
  refine e_lcmp dX11_kept_50 ?_
  refine e_if_eq (t := 58) dX11_kept_51 (by decide) (fun h51 => ?_) (fun h51 => ?_)
  · skip
    refine e_lconst (v := 0) dX11_kept_58 rfl ?_
    refine e_retl dX11_kept_59 (Nat.le_refl _) (Nat.le_refl _) ?_
    refine ⟨?_, rfl, rfl⟩
    unfold ncut
    rw [if_neg k1_0, if_neg k1_1, if_neg k1_2, if_neg k1_3]
    exact (if_pos (lcmp_eq0.mp h51)).symm
  · skip
    refine e_lconst (v := 1) dX11_kept_54 rfl ?_
    refine e_goto (t := 59) dX11_kept_55 (by decide) ?_
    refine e_retl dX11_kept_59 (Nat.le_refl _) (Nat.le_refl _) ?_
    refine ⟨?_, rfl, rfl⟩
    unfold ncut
    rw [if_neg k1_0, if_neg k1_1, if_neg k1_2, if_neg k1_3]
    exact (if_neg (fun q => h51 (lcmp_eq0.mpr q))).symm

set_option maxRecDepth 100000 in
theorem c9_make {t : tp_T} (hV : TPV t) {k n : Nat} (hk : k ≤ 5) {s : Int32} {σ : ex_S} {μ : ex_L}(hC : TPC σ μ t) : Cv 3 yX9_make cX9_make 5 none [.ref 117, .int (nI k), .int s, .int (nI n)] TT σ μ (fun σ' μ' => TPC σ' μ' (ntm t k s n) ∧ (∀ i, i ≠ 118 → i ≠ 119 → σ' i = σ i) ∧ (∀ i, (i < 121 ∨ 126 < i) → μ' i = μ i)) := by
  refine Cl_of (by decide +kernel) (Nat.le_of_ble_eq_true rfl) ?_
  show Ev RX9 cX9_make 5 3 0 0 "make" none ev_ext _ _ 0 0 0 [(0, .ref 117), (1, .int (nI k)), (2, .int s), (3, .int (nI n))] [] TT σ μ
  have loop : ∀ (m i : Nat) (μ1 : ex_L), i + m = 60 → (∀ j, j ≠ 121 + k → μ1 j = μ j) → (∀ q, q < 60 → μ1 (121 + k) q = if q < i then 0 else μ (121 + k) q) → Ev RX9 cX9_make 5 3 0 0 "make" none ev_ext TT.length (fun v9 T9 σ9 μ9 => T9 = TT ∧ v9 = none ∧ (fun σ' μ' => TPC σ' μ' (ntm t k s n) ∧ (∀ i, i ≠ 118 → i ≠ 119 → σ' i = σ i) ∧ (∀ i, (i < 121 ∨ 126 < i) → μ' i = μ i)) σ9 μ9) 0 0 25 [(0, .ref 117), (1, .int (nI k)), (2, .int s), (3, .int (nI n)), (4, .int (nI i))] [] TT (sup (sup σ 118 k s) 119 k (nI n)) μ1 := by
    intro m
    induction m with
    | zero =>
      intro i μ1 hi f1 f2
      obtain rfl : i = 60 := by omega
      refine e_iload dX9_make_25 4 rfl ?_
      refine e_bipush (v := 60) dX9_make_27 rfl ?_
      refine e_icmp_ge (t := 48) dX9_make_29 (by decide) (fun h29 => ?_) (fun h29 => ?_)
      · skip
        refine e_retv dX9_make_48 (Nat.le_refl _) (Nat.le_refl _) ?_
        refine ⟨fun j hj => ?_, fun i h1 h2 => by rw [sup_obj h2, sup_obj h1], fun i hi => f1 i (by omega)⟩
        show _ = (if j = k then s else t.1 j) ∧ _ = nI (if j = k then n else t.2.1 j) ∧ ∀ i, i < 60 → _ = (if j = k then 0 else t.2.2 j i)
        obtain ⟨g1, g2, g3⟩ := hC j hj
        by_cases e : j = k
        · rw [if_pos e, if_pos e, e, sup_obj (show (118 : Nat) ≠ 119 by decide), sup_same, sup_same]
          exact ⟨rfl, rfl, fun i hi => by rw [if_pos rfl, f2 i hi, if_pos hi]⟩
        · rw [if_neg e, if_neg e, sup_obj (show (118 : Nat) ≠ 119 by decide), sup_idx e, sup_idx e, sup_obj (show (119 : Nat) ≠ 118 by decide)]
          exact ⟨g1, g2, fun i hi => by rw [if_neg e, f1 _ (by omega)]; exact g3 i hi⟩
      · skip
        exact absurd (Int32.le_refl _) h29
    | succ m ih =>
      intro i μ1 hi f1 f2
      refine e_iload dX9_make_25 4 rfl ?_
      refine e_bipush (v := 60) dX9_make_27 rfl ?_
      refine e_icmp_ge (t := 48) dX9_make_29 (by decide) (fun h29 => ?_) (fun h29 => ?_)
      · skip
        exact absurd ((i_le (a := 60) (b := i) (by decide) (by omega)).mp h29) (by omega)
      · skip
        refine e_aload_n dX9_make_32 rfl 0 rfl ?_
        refine e_getR dX9_make_33 lkX9_18 tt_117 rfl ?_
        refine e_iload_n dX9_make_36 rfl 1 rfl ?_
        refine e_aald dX9_make_37 tt_120 (Or.inr (Or.inl rfl)) (vp_in_nI (by omega) (by decide)) (by rw [i_cl (by omega)]; exact tape_at (by omega)) ?_
        refine e_iload dX9_make_38 4 rfl ?_
        refine e_lconst (v := 0) dX9_make_40 rfl ?_
        refine e_last dX9_make_41 (tape_row (show k < 6 by omega)) (vp_in_nI (by omega) (by decide)) ?_
        rw [i_cl (show i < 2 ^ 31 by omega)]
        refine e_iinc (nI (i + 1)) [(0, .ref 117), (1, .int (nI k)), (2, .int s), (3, .int (nI n)), (4, .int (nI (i + 1)))] dX9_make_42 4 rfl (nI_1 i) (by decide) rfl ?_
        refine e_goto (t := 25) dX9_make_45 (by decide) ?_
        refine ih (i + 1) (lup μ1 (121 + k) i 0) (by omega) (fun j hj => by rw [lup_obj hj]; exact f1 j hj) (fun q hq => ?_)
        by_cases e : q = i
        · rw [e, lup_same, if_pos (by omega)]
        · rw [lup_idx e, f2 q hq]
          by_cases e2 : q < i
          · rw [if_pos e2, if_pos (by omega)]
          · rw [if_neg e2, if_neg (by omega)]
  refine e_iload_n dX9_make_0 rfl 1 rfl ?_
  refine e_callSi dX9_make_1 cvX9_21 rfl (c9_has (x := nI k)) (Nat.le_of_ble_eq_true rfl) (Nat.le_refl _) (Nat.le_refl _) rfl (Nat.le_of_ble_eq_true rfl) (fun r1 s1 m1 q1 => ?_)
  obtain ⟨q1, e1, g1⟩ := q1
  rw [e1, g1]
  clear e1 g1 s1 m1
  refine e_if_ne (t := 8) dX9_make_4 (by decide) (fun h4 => ?_) (fun h4 => ?_)
  · skip
    refine e_aload_n dX9_make_8 rfl 0 rfl ?_
    refine e_getR dX9_make_9 lkX9_9 tt_117 rfl ?_
    refine e_iload_n dX9_make_12 rfl 1 rfl ?_
    refine e_iload_n dX9_make_13 rfl 2 rfl ?_
    refine e_iast dX9_make_14 tt_118 (vp_in_nI (by omega) (by decide)) ?_
    rw [i_cl (show k < 2 ^ 31 by omega)]
    refine e_aload_n dX9_make_15 rfl 0 rfl ?_
    refine e_getR dX9_make_16 lkX9_13 tt_117 rfl ?_
    refine e_iload_n dX9_make_19 rfl 1 rfl ?_
    refine e_iload_n dX9_make_20 rfl 3 rfl ?_
    refine e_iast dX9_make_21 tt_119 (vp_in_nI (by omega) (by decide)) ?_
    rw [i_cl (show k < 2 ^ 31 by omega)]
    refine e_iconst (v := 0) dX9_make_22 rfl ?_
    refine e_istore [(0, .ref 117), (1, .int (nI k)), (2, .int s), (3, .int (nI n)), (4, .int 0)] dX9_make_23 (by decide) rfl ?_
    exact loop 60 0 μ (by omega) (fun _ _ => rfl) (fun q hq => by rw [if_neg (by omega)])
  · skip
    rw [q1] at h4
    exact absurd (h05 hk) (bI_eq0.mp h4)

theorem gt_60 {n : Int32} (h : 60 < n) : ¬ n ≤ 60 := fun q => by
  have a1 := Int32.lt_iff_toInt_lt.mp h
  have a2 := Int32.le_iff_toInt_le.mp q
  omega
theorem gt_4 {n : Int32} (h : 4 < n) : ¬ n ≤ 4 := fun q => by
  have a1 := Int32.lt_iff_toInt_lt.mp h
  have a2 := Int32.le_iff_toInt_le.mp q
  omega

set_option maxRecDepth 100000 in
theorem c10_tape {t : tp_T} (hV : TPV t) {x s n : Int32} {σ : ex_S} {μ : ex_L}(hC : TPC σ μ t) : Ci 4 yX10_tape cX10_tape 4 (some .int) [.ref 0, .int x, .int s, .int n] TT σ μ (fun z' σ' μ' => z' = (ntape t x s n).1 ∧ TPC σ' μ' (ntape t x s n).2 ∧ (∀ i, i ≠ 118 → i ≠ 119 → σ' i = σ i) ∧ (∀ i, (i < 121 ∨ 126 < i) → μ' i = μ i)) := by
  refine Cl_of (by decide +kernel) (Nat.le_of_ble_eq_true rfl) ?_
  show Ev RX10 cX10_tape 4 4 0 0 "tape" (some .int) ev_ext _ _ 0 0 0 [(0, .ref 0), (1, .int x), (2, .int s), (3, .int n)] [] TT σ μ
  refine e_iload_n dX10_tape_0 rfl 1 rfl ?_
  refine e_callSi dX10_tape_1 cvX10_350 rfl (c9_has (x := x)) (Nat.le_of_ble_eq_true rfl) (Nat.le_refl _) (Nat.le_refl _) rfl (Nat.le_of_ble_eq_true rfl) (fun r1 s1 m1 q1 => ?_)
  obtain ⟨q1, e1, g1⟩ := q1
  rw [e1, g1]
  clear e1 g1 s1 m1
  refine e_if_ne (t := 9) dX10_tape_4 (by decide) (fun h4 => ?_) (fun h4 => ?_)
  · skip
    rw [q1, bI_eq0] at h4
    have hP := Classical.not_not.mp h4
    obtain ⟨k, hk, rfl⟩ := i_of (x := x) (m := 5) (by omega) hP.1 (show _ ≤ nI (5) from hP.2)
    have h05k := h05 hk
    refine e_iload_n dX10_tape_9 rfl 2 rfl ?_
    refine e_iconst (v := (-1)) dX10_tape_10 rfl ?_
    refine e_icmp_ne (t := 26) dX10_tape_11 (by decide) (fun h11 => ?_) (fun h11 => ?_)
    · skip
      refine e_iload_n dX10_tape_26 rfl 2 rfl ?_
      refine e_if_lt (t := 41) dX10_tape_27 (by decide) (fun h27 => ?_) (fun h27 => ?_)
      · skip
        skip
        refine e_bipush (v := (-2)) dX10_tape_41 rfl ?_
        refine e_reti dX10_tape_43 ev_nwi (Nat.le_refl _) (Nat.le_refl _) ?_
        have hr : ntape t (nI k) s n = (-2, t) := by
          unfold ntape
          rw [cif_t h05k, cif_f h11, cif_f (fun z => nlt_0 h27 z.1.1)]
        rw [hr]
        exact ⟨rfl, hC, fun _ _ _ => rfl, fun _ _ => rfl⟩
      · skip
        refine e_iload_n dX10_tape_30 rfl 2 rfl ?_
        refine e_iconst (v := 4) dX10_tape_31 rfl ?_
        refine e_icmp_gt (t := 41) dX10_tape_32 (by decide) (fun h32 => ?_) (fun h32 => ?_)
        · skip
          skip
          refine e_bipush (v := (-2)) dX10_tape_41 rfl ?_
          refine e_reti dX10_tape_43 ev_nwi (Nat.le_refl _) (Nat.le_refl _) ?_
          have hr : ntape t (nI k) s n = (-2, t) := by
            unfold ntape
            rw [cif_t h05k, cif_f h11, cif_f (fun z => gt_4 h32 z.1.2)]
          rw [hr]
          exact ⟨rfl, hC, fun _ _ _ => rfl, fun _ _ => rfl⟩
        · skip
          refine e_iload_n dX10_tape_35 rfl 3 rfl ?_
          refine e_bipush (v := 60) dX10_tape_36 rfl ?_
          refine e_icmp_le (t := 44) dX10_tape_38 (by decide) (fun h38 => ?_) (fun h38 => ?_)
          · skip
            have hW : (0 ≤ s ∧ s ≤ 4) ∧ n ≤ 60 := ⟨⟨fa_of_nlt h27, fa_of_nlt h32⟩, h38⟩
            refine e_iload_n dX10_tape_44 rfl 3 rfl ?_
            refine e_if_ge (t := 51) dX10_tape_45 (by decide) (fun h45 => ?_) (fun h45 => ?_)
            · skip
              obtain ⟨c, hc, rfl⟩ := i_of (x := n) (m := 60) (by omega) h45 (show _ ≤ nI (60) from h38)
              refine e_aload_n dX10_tape_51 rfl 0 rfl ?_
              refine e_getR dX10_tape_52 lkX10_81 tt_0 rfl ?_
              refine e_iload_n dX10_tape_55 rfl 1 rfl ?_
              refine e_iload_n dX10_tape_56 rfl 2 rfl ?_
              refine e_iload_n dX10_tape_57 rfl 3 rfl ?_
              refine e_callVv dX10_tape_58 cvX10_367 rfl tt_117 rfl (c9_make hV (k := k) (n := c) (by omega) (s := s) hC) (Nat.le_of_ble_eq_true rfl) (Nat.le_refl _) (Nat.le_refl _) rfl (Nat.le_of_ble_eq_true rfl) (fun s58 m58 q58 => ?_)
              obtain ⟨a1, a2, a3⟩ := q58
              refine e_iconst (v := 1) dX10_tape_61 rfl ?_
              refine e_reti dX10_tape_62 ev_nwi (Nat.le_refl _) (Nat.le_refl _) ?_
              have hr : ntape t (nI k) s (nI c) = (1, ntm t k s c) := by
                unfold ntape
                rw [cif_t h05k, cif_f h11, cif_t hW, cif_t h45, i_cl (show k < 2 ^ 31 by omega), i_cl (show c < 2 ^ 31 by omega)]
              rw [hr]
              exact ⟨rfl, a1, a2, a3⟩
            · skip
              refine e_bipush (v := (-14)) dX10_tape_48 rfl ?_
              refine e_reti dX10_tape_50 ev_nwi (Nat.le_refl _) (Nat.le_refl _) ?_
              have hr : ntape t (nI k) s n = (-14, t) := by
                unfold ntape
                rw [cif_t h05k, cif_f h11, cif_t hW, cif_f h45]
              rw [hr]
              exact ⟨rfl, hC, fun _ _ _ => rfl, fun _ _ => rfl⟩
          · skip
            skip
            refine e_bipush (v := (-2)) dX10_tape_41 rfl ?_
            refine e_reti dX10_tape_43 ev_nwi (Nat.le_refl _) (Nat.le_refl _) ?_
            have hr : ntape t (nI k) s n = (-2, t) := by
              unfold ntape
              rw [cif_t h05k, cif_f h11, cif_f (fun z => h38 z.2)]
            rw [hr]
            exact ⟨rfl, hC, fun _ _ _ => rfl, fun _ _ => rfl⟩
    · skip
      subst h11
      refine e_aload_n dX10_tape_14 rfl 0 rfl ?_
      refine e_getR dX10_tape_15 lkX10_81 tt_0 rfl ?_
      refine e_iload_n dX10_tape_18 rfl 1 rfl ?_
      refine e_iload_n dX10_tape_19 rfl 2 rfl ?_
      refine e_iconst (v := 0) dX10_tape_20 rfl ?_
      refine e_callVv dX10_tape_21 cvX10_367 rfl tt_117 rfl (c9_make hV (k := k) (n := 0) (by omega) (s := -1) hC) (Nat.le_of_ble_eq_true rfl) (Nat.le_refl _) (Nat.le_refl _) rfl (Nat.le_of_ble_eq_true rfl) (fun s21 m21 q21 => ?_)
      obtain ⟨a1, a2, a3⟩ := q21
      refine e_iconst (v := 1) dX10_tape_24 rfl ?_
      refine e_reti dX10_tape_25 ev_nwi (Nat.le_refl _) (Nat.le_refl _) ?_
      have hr : ntape t (nI k) (-1) n = (1, ntm t k (-1) 0) := by
        unfold ntape
        rw [cif_t h05k, cif_t rfl, i_cl (show k < 2 ^ 31 by omega)]
      rw [hr]
      exact ⟨rfl, a1, a2, a3⟩
  · skip
    rw [q1] at h4
    have h4 := bI_eq0.mp h4
    refine e_iconst (v := (-1)) dX10_tape_7 rfl ?_
    refine e_reti dX10_tape_8 ev_nwi (Nat.le_refl _) (Nat.le_refl _) ?_
    have hr : ntape t x s n = (-1, t) := by
      unfold ntape
      rw [cif_f h4]
    rw [hr]
    exact ⟨rfl, hC, fun _ _ _ => rfl, fun _ _ => rfl⟩

theorem m1_4 {s : Int32} (h : -1 ≤ s ∧ s ≤ 4) (h2 : s < 0) : s = -1 := by
  have a1 := Int32.le_iff_toInt_le.mp h.1
  have a2 := Int32.lt_iff_toInt_lt.mp h2
  have a3 : (-1 : Int32).toInt = -1 := by decide
  have a4 : (0 : Int32).toInt = 0 := by decide
  exact Int32.toInt_inj.mp (by omega)
theorem m1_n {s : Int32} (h : 0 ≤ s) : ¬ s = -1 := fun q => by
  rw [q] at h
  exact absurd h (by decide)
theorem m1_out {s n : Int32} (h : ¬ (-1 ≤ s ∧ s ≤ 4)) : ¬ s = -1 ∧ ¬ ((0 ≤ s ∧ s ≤ 4) ∧ n ≤ 60) := by
  refine ⟨fun q => h (by rw [q]; decide), fun q => h ⟨?_, q.1.2⟩⟩
  have a1 := Int32.le_iff_toInt_le.mp q.1.1
  have a3 : (-1 : Int32).toInt = -1 := by decide
  have a4 : (0 : Int32).toInt = 0 := by decide
  rw [Int32.le_iff_toInt_le]
  omega

set_option maxRecDepth 100000 in
theorem c11_tape {t : tp_T} (hV : TPV t) {x s n : Int32} {σ : ex_S} {μ : ex_L}(hC : TPR σ μ t) : Ci 4 yX11_tape cX11_tape 5 (some .int) [.ref 127, .int x, .int s, .int n] TT σ μ (fun z' σ' μ' => z' = (ntape t x s n).1 ∧ TPR σ' μ' (ntape t x s n).2 ∧ (∀ i, i ≠ 151 → i ≠ 152 → σ' i = σ i) ∧ (∀ i, i ≠ 153 → μ' i = μ i)) := by
  refine Cl_of (by decide +kernel) (Nat.le_of_ble_eq_true rfl) ?_
  show Ev RX11 cX11_tape 5 4 0 0 "tape" (some .int) ev_ext _ _ 0 0 0 [(0, .ref 127), (1, .int x), (2, .int s), (3, .int n)] [] TT σ μ
  have loop : ∀ (k c : Nat) (s2 n2 : Int32), k ≤ 5 → ntape t x s n = (1, ntm t k s2 c) → ∀ (m i : Nat) (μ1 : ex_L), i + m = 60 → (∀ j, j ≠ 153 → μ1 j = μ j) → (∀ k2 q, k2 < 6 → q < 60 → μ1 153 (60 * k2 + q) = if k2 = k ∧ q < i then 0 else μ 153 (60 * k2 + q)) → Ev RX11 cX11_tape 5 4 0 0 "tape" (some .int) ev_ext TT.length (fun v9 T9 σ9 μ9 => T9 = TT ∧ ∃ z9, v9 = some (.int z9) ∧ (fun z' σ' μ' => z' = (ntape t x s n).1 ∧ TPR σ' μ' (ntape t x s n).2 ∧ (∀ i, i ≠ 151 → i ≠ 152 → σ' i = σ i) ∧ (∀ i, i ≠ 153 → μ' i = μ i)) z9 σ9 μ9) 0 0 67 [(0, .ref 127), (1, .int (nI k)), (2, .int s2), (3, .int n2), (4, .int (nI i))] [] TT (sup (sup σ 151 k s2) 152 k (nI c)) μ1 := by
    intro k c s2 n2 hk hr m
    induction m with
    | zero =>
      intro i μ1 hi f1 f2
      obtain rfl : i = 60 := by omega
      refine e_iload dX11_tape_67 4 rfl ?_
      refine e_bipush (v := 60) dX11_tape_69 rfl ?_
      refine e_icmp_ge (t := 93) dX11_tape_71 (by decide) (fun h71 => ?_) (fun h71 => ?_)
      · skip
        refine e_iconst (v := 1) dX11_tape_93 rfl ?_
        refine e_reti dX11_tape_94 ev_nwi (Nat.le_refl _) (Nat.le_refl _) ?_
        rw [hr]
        refine ⟨rfl, fun j hj => ?_, fun i h1 h2 => by rw [sup_obj h2, sup_obj h1], f1⟩
        show _ = (if j = k then s2 else t.1 j) ∧ _ = nI (if j = k then c else t.2.1 j) ∧ ∀ i, i < 60 → _ = (if j = k then 0 else t.2.2 j i)
        obtain ⟨g1, g2, g3⟩ := hC j hj
        by_cases e : j = k
        · rw [if_pos e, if_pos e, e, sup_obj (show (151 : Nat) ≠ 152 by decide), sup_same, sup_same]
          exact ⟨rfl, rfl, fun i hi => by rw [if_pos rfl, f2 k i (by omega) hi, if_pos ⟨rfl, hi⟩]⟩
        · rw [if_neg e, if_neg e, sup_obj (show (151 : Nat) ≠ 152 by decide), sup_idx e, sup_idx e, sup_obj (show (152 : Nat) ≠ 151 by decide)]
          exact ⟨g1, g2, fun i hi => by rw [if_neg e, f2 j i hj hi, if_neg (fun q => e q.1)]; exact g3 i hi⟩
      · skip
        exact absurd (Int32.le_refl _) h71
    | succ m ih =>
      intro i μ1 hi f1 f2
      refine e_iload dX11_tape_67 4 rfl ?_
      refine e_bipush (v := 60) dX11_tape_69 rfl ?_
      refine e_icmp_ge (t := 93) dX11_tape_71 (by decide) (fun h71 => ?_) (fun h71 => ?_)
      · skip
        exact absurd ((i_le (a := 60) (b := i) (by decide) (by omega)).mp h71) (by omega)
      · skip
        refine e_aload_n dX11_tape_74 rfl 0 rfl ?_
        refine e_getR dX11_tape_75 lkX11_87 tt_127 rfl ?_
        refine e_bipush (v := 60) dX11_tape_78 rfl ?_
        refine e_iload_n dX11_tape_80 rfl 1 rfl ?_
        refine e_imul dX11_tape_81 ?_
        refine e_iload dX11_tape_82 4 rfl ?_
        refine e_iadd dX11_tape_84 ?_
        refine e_lconst (v := 0) dX11_tape_85 rfl ?_
        rw [show (60 : Int32) * nI k + nI i = nI (60 * k + i) from by rw [show (60 : Int32) = nI 60 from rfl, i_mul, i_add]]
        refine e_last dX11_tape_86 tt_153 (vp_in_nI (by omega) (by decide)) ?_
        rw [i_cl (show 60 * k + i < 2 ^ 31 by omega)]
        refine e_iinc (nI (i + 1)) [(0, .ref 127), (1, .int (nI k)), (2, .int s2), (3, .int n2), (4, .int (nI (i + 1)))] dX11_tape_87 4 rfl (nI_1 i) (by decide) rfl ?_
        refine e_goto (t := 67) dX11_tape_90 (by decide) ?_
        refine ih (i + 1) (lup μ1 153 (60 * k + i) 0) (by omega) (fun j hj => by rw [lup_obj hj]; exact f1 j hj) (fun k2 q hk2 hq => ?_)
        by_cases e : k2 = k ∧ q = i
        · rw [e.1, e.2, lup_same, if_pos ⟨rfl, by omega⟩]
        · rw [lup_idx (by omega), f2 k2 q hk2 hq]
          by_cases e2 : k2 = k ∧ q < i
          · rw [if_pos e2, if_pos ⟨e2.1, by omega⟩]
          · rw [if_neg e2, if_neg (by omega)]
  refine e_iload_n dX11_tape_0 rfl 1 rfl ?_
  refine e_callSi dX11_tape_1 cvX11_296 rfl (c11_isTape x) (Nat.le_of_ble_eq_true rfl) (Nat.le_refl _) (Nat.le_refl _) rfl (Nat.le_of_ble_eq_true rfl) (fun r1 s1 m1 q1 => ?_)
  obtain ⟨q1, e1, g1⟩ := q1
  rw [e1, g1]
  clear e1 g1 s1 m1
  refine e_if_ne (t := 9) dX11_tape_4 (by decide) (fun h4 => ?_) (fun h4 => ?_)
  · skip
    rw [q1, bI_eq0] at h4
    have hP := Classical.not_not.mp h4
    obtain ⟨k, hk, rfl⟩ := i_of (x := x) (m := 5) (by omega) hP.1 (show _ ≤ nI (5) from hP.2)
    have h05k := h05 hk
    have h6 : k < 6 := by omega
    refine e_iload_n dX11_tape_9 rfl 2 rfl ?_
    refine e_iconst (v := (-1)) dX11_tape_10 rfl ?_
    refine e_iconst (v := 4) dX11_tape_11 rfl ?_
    refine e_callSi dX11_tape_12 cvX11_99 rfl (c11_within s (-1) 4) (Nat.le_of_ble_eq_true rfl) (Nat.le_refl _) (Nat.le_refl _) rfl (Nat.le_of_ble_eq_true rfl) (fun r12 s12 m12 q12 => ?_)
    obtain ⟨q12, e12, g12⟩ := q12
    rw [e12, g12]
    clear e12 g12 s12 m12
    refine e_if_eq (t := 28) dX11_tape_15 (by decide) (fun h15 => ?_) (fun h15 => ?_)
    · skip
      rw [q12, bI_eq0] at h15
      refine e_bipush (v := (-2)) dX11_tape_28 rfl ?_
      refine e_reti dX11_tape_30 ev_nwi (Nat.le_refl _) (Nat.le_refl _) ?_
      have hr : ntape t (nI k) s n = (-2, t) := by
        unfold ntape
        rw [cif_t h05k, cif_f (m1_out (n := n) h15).1, cif_f (m1_out (n := n) h15).2]
      rw [hr]
      exact ⟨rfl, hC, fun _ _ _ => rfl, fun _ _ => rfl⟩
    · skip
      rw [q12, bI_eq0] at h15
      have hR := Classical.not_not.mp h15
      refine e_iload_n dX11_tape_18 rfl 2 rfl ?_
      refine e_if_lt (t := 31) dX11_tape_19 (by decide) (fun h19 => ?_) (fun h19 => ?_)
      · skip
        have hsm := m1_4 hR h19
        subst hsm
        refine e_iload_n dX11_tape_31 rfl 2 rfl ?_
        refine e_if_lt (t := 42) dX11_tape_32 (by decide) (fun h32 => ?_) (fun h32 => ?_)
        · skip
          refine e_aload_n dX11_tape_42 rfl 0 rfl ?_
          refine e_getR dX11_tape_43 lkX11_81 tt_127 rfl ?_
          refine e_iload_n dX11_tape_46 rfl 1 rfl ?_
          refine e_iload_n dX11_tape_47 rfl 2 rfl ?_
          refine e_iast dX11_tape_48 tt_151 (vp_in_nI (by omega) (by decide)) ?_
          rw [i_cl (show k < 2 ^ 31 by omega)]
          refine e_aload_n dX11_tape_49 rfl 0 rfl ?_
          refine e_getR dX11_tape_50 lkX11_84 tt_127 rfl ?_
          refine e_iload_n dX11_tape_53 rfl 1 rfl ?_
          refine e_iload_n dX11_tape_54 rfl 2 rfl ?_
          refine e_if_ge (t := 62) dX11_tape_55 (by decide) (fun h55 => ?_) (fun h55 => ?_)
          · skip
            exact absurd h55 (by decide)
          · skip
            refine e_iconst (v := 0) dX11_tape_58 rfl ?_
            refine e_goto (t := 63) dX11_tape_59 (by decide) ?_
            refine e_iast dX11_tape_63 tt_152 (vp_in_nI (by omega) (by decide)) ?_
            rw [i_cl (show k < 2 ^ 31 by omega)]
            refine e_iconst (v := 0) dX11_tape_64 rfl ?_
            refine e_istore [(0, .ref 127), (1, .int (nI k)), (2, .int (-1)), (3, .int n), (4, .int 0)] dX11_tape_65 (by decide) rfl ?_
            have hr : ntape t (nI k) (-1) n = (1, ntm t k (-1) 0) := by
              unfold ntape
              rw [cif_t h05k, cif_t rfl, i_cl (show k < 2 ^ 31 by omega)]
            exact loop k 0 (-1) n (by omega) hr 60 0 μ (by omega) (fun _ _ => rfl) (fun k2 q _ _ => by rw [if_neg (fun z => absurd z.2 (by omega))])
        · skip
          exact absurd (by decide) h32
      · skip
        refine e_iload_n dX11_tape_22 rfl 3 rfl ?_
        refine e_bipush (v := 60) dX11_tape_23 rfl ?_
        refine e_icmp_le (t := 31) dX11_tape_25 (by decide) (fun h25 => ?_) (fun h25 => ?_)
        · skip
          have hW : (0 ≤ s ∧ s ≤ 4) ∧ n ≤ 60 := ⟨⟨fa_of_nlt h19, hR.2⟩, h25⟩
          have hs1 := m1_n hW.1.1
          refine e_iload_n dX11_tape_31 rfl 2 rfl ?_
          refine e_if_lt (t := 42) dX11_tape_32 (by decide) (fun h32 => ?_) (fun h32 => ?_)
          · skip
            exact absurd hW.1.1 (nlt_0 h32)
          · skip
            refine e_iload_n dX11_tape_35 rfl 3 rfl ?_
            refine e_if_ge (t := 42) dX11_tape_36 (by decide) (fun h36 => ?_) (fun h36 => ?_)
            · skip
              have h0n := h36
              obtain ⟨c, hc, rfl⟩ := i_of (x := n) (m := 60) (by omega) h36 (show _ ≤ nI (60) from hW.2)
              refine e_aload_n dX11_tape_42 rfl 0 rfl ?_
              refine e_getR dX11_tape_43 lkX11_81 tt_127 rfl ?_
              refine e_iload_n dX11_tape_46 rfl 1 rfl ?_
              refine e_iload_n dX11_tape_47 rfl 2 rfl ?_
              refine e_iast dX11_tape_48 tt_151 (vp_in_nI (by omega) (by decide)) ?_
              rw [i_cl (show k < 2 ^ 31 by omega)]
              refine e_aload_n dX11_tape_49 rfl 0 rfl ?_
              refine e_getR dX11_tape_50 lkX11_84 tt_127 rfl ?_
              refine e_iload_n dX11_tape_53 rfl 1 rfl ?_
              refine e_iload_n dX11_tape_54 rfl 2 rfl ?_
              refine e_if_ge (t := 62) dX11_tape_55 (by decide) (fun h55 => ?_) (fun h55 => ?_)
              · skip
                refine e_iload_n dX11_tape_62 rfl 3 rfl ?_
                refine e_iast dX11_tape_63 tt_152 (vp_in_nI (by omega) (by decide)) ?_
                rw [i_cl (show k < 2 ^ 31 by omega)]
                refine e_iconst (v := 0) dX11_tape_64 rfl ?_
                refine e_istore [(0, .ref 127), (1, .int (nI k)), (2, .int s), (3, .int (nI c)), (4, .int 0)] dX11_tape_65 (by decide) rfl ?_
                have hr : ntape t (nI k) s (nI c) = (1, ntm t k s c) := by
                  unfold ntape
                  rw [cif_t h05k, cif_f hs1, cif_t hW, cif_t h0n, i_cl (show k < 2 ^ 31 by omega), i_cl (show c < 2 ^ 31 by omega)]
                exact loop k c s (nI c) (by omega) hr 60 0 μ (by omega) (fun _ _ => rfl) (fun k2 q _ _ => by rw [if_neg (fun z => absurd z.2 (by omega))])
              · skip
                exact absurd hW.1.1 h55
            · skip
              refine e_bipush (v := (-14)) dX11_tape_39 rfl ?_
              refine e_reti dX11_tape_41 ev_nwi (Nat.le_refl _) (Nat.le_refl _) ?_
              have hr : ntape t (nI k) s n = (-14, t) := by
                unfold ntape
                rw [cif_t h05k, cif_f hs1, cif_t hW, cif_f h36]
              rw [hr]
              exact ⟨rfl, hC, fun _ _ _ => rfl, fun _ _ => rfl⟩
        · skip
          skip
          refine e_bipush (v := (-2)) dX11_tape_28 rfl ?_
          refine e_reti dX11_tape_30 ev_nwi (Nat.le_refl _) (Nat.le_refl _) ?_
          have hr : ntape t (nI k) s n = (-2, t) := by
            unfold ntape
            rw [cif_t h05k, cif_f (m1_n (fa_of_nlt h19)), cif_f (fun z => h25 z.2)]
          rw [hr]
          exact ⟨rfl, hC, fun _ _ _ => rfl, fun _ _ => rfl⟩
  · skip
    rw [q1] at h4
    have h4 := bI_eq0.mp h4
    refine e_iconst (v := (-1)) dX11_tape_7 rfl ?_
    refine e_reti dX11_tape_8 ev_nwi (Nat.le_refl _) (Nat.le_refl _) ?_
    have hr : ntape t x s n = (-1, t) := by
      unfold ntape
      rw [cif_f h4]
    rw [hr]
    exact ⟨rfl, hC, fun _ _ _ => rfl, fun _ _ => rfl⟩
