noncomputable def njF (p : Nat) (S : ns_T) (t : tp_T) (x : Nat) (i : Int32) : Nat → Nat → Int32
  | 0, _ => -5
  | m + 1, k => cif (0 ≤ i ∧ i.toInt + k < t.2.1 x) (cif (t.2.2 x (i.toNatClampNeg + k) = (nshow p S k).toInt64) (njF p S t x i m (k + 1)) (nI k)) (nI (100 + k))
noncomputable def njudge (p : Nat) (S : ns_T) (t : tp_T) (x i : Int32) : Int32 := cif (0 ≤ x ∧ x ≤ 5) (cif (t.1 x.toNatClampNeg = -1 ∨ t.1 x.toNatClampNeg = 0) (njF p S t x.toNatClampNeg i (S 0 0) 0) (-12)) (-1)
theorem njF_out {p : Nat} {S : ns_T} {t : tp_T} {x : Nat} {i : Int32} {m k : Nat} (h : ¬ (0 ≤ i ∧ i.toInt + k < t.2.1 x)) : njF p S t x i (m + 1) k = nI (100 + k) := cif_f h
theorem njF_ne {p : Nat} {S : ns_T} {t : tp_T} {x : Nat} {i : Int32} {m k : Nat} (h : 0 ≤ i ∧ i.toInt + k < t.2.1 x) (h2 : ¬ t.2.2 x (i.toNatClampNeg + k) = (nshow p S k).toInt64) : njF p S t x i (m + 1) k = nI k := (cif_t h).trans (cif_f h2)
theorem njF_eq {p : Nat} {S : ns_T} {t : tp_T} {x : Nat} {i : Int32} {m k : Nat} (h : 0 ≤ i ∧ i.toInt + k < t.2.1 x) (h2 : t.2.2 x (i.toNatClampNeg + k) = (nshow p S k).toInt64) : njF p S t x i (m + 1) k = njF p S t x i m (k + 1) := (cif_t h).trans (cif_t h2)
theorem i_100 (k : Nat) : (100 : Int32) + nI k = nI (100 + k) := by
  rw [show (100 : Int32) = nI 100 from rfl, i_add]

set_option maxRecDepth 100000 in
theorem c10_judge {p : Nat} (hp : gP p) {S : ns_T} (hV : VS S) {t : tp_T} (hT : TPV t) {x i : Int32} {σ : ex_S} {μ : ex_L}(hF : FC σ p) (hC : NC σ 33 S) (hD : TPC σ μ t) : Ci 6 yX10_judge cX10_judge 4 (some .int) [.ref 0, .int x, .int i] TT σ μ (fun z' σ' μ' => z' = njudge p S t x i ∧ σ' = σ ∧ μ' = μ) := by
  refine Cl_of (by decide +kernel) (Nat.le_of_ble_eq_true rfl) ?_
  show Ev RX10 cX10_judge 4 6 0 0 "judge" (some .int) ev_ext _ _ 0 0 0 [(0, .ref 0), (1, .int x), (2, .int i)] [] TT σ μ
  have hn := hV.1
  have h2n := two_n hV
  have loop : ∀ (c : Nat), c ≤ 5 → ∀ (m k : Nat), k + m = S 0 0 → njudge p S t x i = njF p S t c i m k → Ev RX10 cX10_judge 4 6 0 0 "judge" (some .int) ev_ext TT.length (fun v9 T9 σ9 μ9 => T9 = TT ∧ ∃ z9, v9 = some (.int z9) ∧ (fun z' σ' μ' => z' = njudge p S t x i ∧ σ' = σ ∧ μ' = μ) z9 σ9 μ9) 0 0 39 [(0, .ref 0), (1, .int (nI c)), (2, .int i), (3, .int (nI k))] [] TT σ μ := by
    intro c hc m
    obtain ⟨g1, g2, g3⟩ := hD c (by omega)
    obtain ⟨w1, w2⟩ := hT c (by omega)
    induction m with
    | zero =>
      intro k hk hr
      obtain rfl : k = S 0 0 := by omega
      refine e_iload_n dX10_judge_39 rfl 3 rfl ?_
      refine e_aload_n dX10_judge_40 rfl 0 rfl ?_
      refine e_getR dX10_judge_41 lkX10_46 tt_0 rfl ?_
      refine e_getR dX10_judge_44 lkX10_89 (store_0 store_32_) rfl ?_
      refine e_getI dX10_judge_47 lkX10_92 (nodes_0 (store_n store_32_)) rfl ?_
      rw [hC.1]
      refine e_icmp_ge (t := 108) dX10_judge_50 (by decide) (fun h50 => ?_) (fun h50 => ?_)
      · skip
        refine e_bipush (v := (-5)) dX10_judge_108 rfl ?_
        refine e_reti dX10_judge_110 ev_nwi (Nat.le_refl _) (Nat.le_refl _) ?_
        exact ⟨by rw [hr]; rfl, rfl, rfl⟩
      · skip
        exact absurd (show nI (S 0 0) ≤ nI (S 0 0) from (i_le (by omega) (by omega)).mpr (by omega)) h50
    | succ m ih =>
      intro k hk hr
      refine e_iload_n dX10_judge_39 rfl 3 rfl ?_
      refine e_aload_n dX10_judge_40 rfl 0 rfl ?_
      refine e_getR dX10_judge_41 lkX10_46 tt_0 rfl ?_
      refine e_getR dX10_judge_44 lkX10_89 (store_0 store_32_) rfl ?_
      refine e_getI dX10_judge_47 lkX10_92 (nodes_0 (store_n store_32_)) rfl ?_
      rw [hC.1]
      refine e_icmp_ge (t := 108) dX10_judge_50 (by decide) (fun h50 => ?_) (fun h50 => ?_)
      · skip
        exact absurd ((i_le (by omega) (by omega)).mp (show nI (S 0 0) ≤ nI k from h50)) (by omega)
      · skip
        refine e_iload_n dX10_judge_53 rfl 2 rfl ?_
        refine e_if_lt (t := 72) dX10_judge_54 (by decide) (fun h54 => ?_) (fun h54 => ?_)
        · skip
          skip
          refine e_bipush (v := 100) dX10_judge_72 rfl ?_
          refine e_iload_n dX10_judge_74 rfl 3 rfl ?_
          refine e_iadd dX10_judge_75 ?_
          refine e_reti dX10_judge_76 ev_nwi (Nat.le_refl _) (Nat.le_refl _) ?_
          rw [i_100]
          exact ⟨by rw [hr, njF_out (fun z => nlt_0 h54 z.1)], rfl, rfl⟩
        · skip
          refine e_iload_n dX10_judge_57 rfl 2 rfl ?_
          refine e_aload_n dX10_judge_58 rfl 0 rfl ?_
          refine e_getR dX10_judge_59 lkX10_81 tt_0 rfl ?_
          refine e_getR dX10_judge_62 lkX10_354 tt_117 rfl ?_
          refine e_iload_n dX10_judge_65 rfl 1 rfl ?_
          refine e_iald dX10_judge_66 tt_119 (vp_in_nI (by omega) (by decide)) ?_
          refine e_iload_n dX10_judge_67 rfl 3 rfl ?_
          refine e_isub dX10_judge_68 ?_
          rw [i_cl (show c < 2 ^ 31 by omega), g2]
          refine e_icmp_lt (t := 77) dX10_judge_69 (by decide) (fun h69 => ?_) (fun h69 => ?_)
          · skip
            have hin : 0 ≤ i ∧ i.toInt + k < t.2.1 c := by
              have a1 := Int32.lt_iff_toInt_lt.mp h69
              rw [sub_toInt (by omega) (by omega)] at a1
              exact ⟨fa_of_nlt h54, by omega⟩
            obtain ⟨a, ha, hia⟩ := i_any hin.1
            subst hia
            have hak := hin.2
            rw [i_toInt ha] at hak
            refine e_aload_n dX10_judge_77 rfl 0 rfl ?_
            refine e_getR dX10_judge_78 lkX10_81 tt_0 rfl ?_
            refine e_getR dX10_judge_81 lkX10_357 tt_117 rfl ?_
            refine e_iload_n dX10_judge_84 rfl 1 rfl ?_
            refine e_aald dX10_judge_85 tt_120 (Or.inr (Or.inl rfl)) (vp_in_nI (by omega) (by decide)) (by rw [i_cl (by omega)]; exact tape_at (by omega)) ?_
            refine e_iload_n dX10_judge_86 rfl 2 rfl ?_
            refine e_iload_n dX10_judge_87 rfl 3 rfl ?_
            refine e_iadd dX10_judge_88 ?_
            rw [i_add]
            refine e_lald dX10_judge_89 (tape_row (show c < 6 by omega)) (vp_in_nI (by omega) (by decide)) ?_
            refine e_aload_n dX10_judge_90 rfl 0 rfl ?_
            refine e_iload_n dX10_judge_91 rfl 3 rfl ?_
            refine e_callVi dX10_judge_92 cvX10_347 rfl tt_0 rfl (c10_shown hp hV (j := k) (by omega) hF hC) (Nat.le_of_ble_eq_true rfl) (Nat.le_refl _) (Nat.le_refl _) rfl (Nat.le_of_ble_eq_true rfl) (fun r92 s92 m92 q92 => ?_)
            obtain ⟨q92, e92, g92⟩ := q92
            rw [e92, g92]
            clear e92 g92 s92 m92
            refine e_i2l dX10_judge_95 ?_
            rw [i_cl (show a + k < 2 ^ 31 by omega), g3 _ (by omega), q92]
            refine e_lcmp dX10_judge_96 ?_
            refine e_if_eq (t := 102) dX10_judge_97 (by decide) (fun h97 => ?_) (fun h97 => ?_)
            · skip
              have heq : t.2.2 c ((nI a).toNatClampNeg + k) = (nshow p S k).toInt64 := by rw [i_cl ha]; exact lcmp_eq0.mp h97
              refine e_iinc (nI (k + 1)) [(0, .ref 0), (1, .int (nI c)), (2, .int (nI a)), (3, .int (nI (k + 1)))] dX10_judge_102 3 rfl (nI_1 k) (by decide) rfl ?_
              refine e_goto (t := 39) dX10_judge_105 (by decide) ?_
              exact ih (k + 1) (by omega) (by rw [hr, njF_eq hin heq])
            · skip
              have hne : ¬ t.2.2 c ((nI a).toNatClampNeg + k) = (nshow p S k).toInt64 := fun q => h97 (lcmp_eq0.mpr (by rw [i_cl ha] at q; exact q))
              refine e_iload_n dX10_judge_100 rfl 3 rfl ?_
              refine e_reti dX10_judge_101 ev_nwi (Nat.le_refl _) (Nat.le_refl _) ?_
              exact ⟨by rw [hr, njF_ne hin hne], rfl, rfl⟩
          · skip
            skip
            refine e_bipush (v := 100) dX10_judge_72 rfl ?_
            refine e_iload_n dX10_judge_74 rfl 3 rfl ?_
            refine e_iadd dX10_judge_75 ?_
            refine e_reti dX10_judge_76 ev_nwi (Nat.le_refl _) (Nat.le_refl _) ?_
            rw [i_100]
            exact ⟨by rw [hr, njF_out (fun z => by
              have a1 := Int32.le_iff_toInt_le.mp (Int32.not_lt.mp h69)
              rw [sub_toInt (by omega) (by omega)] at a1
              omega)], rfl, rfl⟩
  refine e_iload_n dX10_judge_0 rfl 1 rfl ?_
  refine e_callSi dX10_judge_1 cvX10_350 rfl (c9_has (x := x)) (Nat.le_of_ble_eq_true rfl) (Nat.le_refl _) (Nat.le_refl _) rfl (Nat.le_of_ble_eq_true rfl) (fun r1 s1 m1 q1 => ?_)
  obtain ⟨q1, e1, g1⟩ := q1
  rw [e1, g1]
  clear e1 g1 s1 m1
  refine e_if_ne (t := 9) dX10_judge_4 (by decide) (fun h4 => ?_) (fun h4 => ?_)
  · skip
    rw [q1, bI_eq0] at h4
    have hP := Classical.not_not.mp h4
    obtain ⟨c, hc, rfl⟩ := i_of (x := x) (m := 5) (by omega) hP.1 (show _ ≤ nI (5) from hP.2)
    obtain ⟨g1, g2, g3⟩ := hD c (by omega)
    have hc5 := h05 hc
    refine e_aload_n dX10_judge_9 rfl 0 rfl ?_
    refine e_getR dX10_judge_10 lkX10_81 tt_0 rfl ?_
    refine e_getR dX10_judge_13 lkX10_351 tt_117 rfl ?_
    refine e_iload_n dX10_judge_16 rfl 1 rfl ?_
    refine e_iald dX10_judge_17 tt_118 (vp_in_nI (by omega) (by decide)) ?_
    refine e_iconst (v := (-1)) dX10_judge_18 rfl ?_
    refine e_icmp_eq (t := 37) dX10_judge_19 (by decide) (fun h19 => ?_) (fun h19 => ?_)
    · skip
      rw [i_cl (show c < 2 ^ 31 by omega), g1] at h19
      have hq := h19
      refine e_iconst (v := 0) dX10_judge_37 rfl ?_
      refine e_istore_n [(0, .ref 0), (1, .int (nI c)), (2, .int i), (3, .int (nI 0))] dX10_judge_38 rfl (by decide) rfl ?_
      have hr : njudge p S t (nI c) i = njF p S t c i (S 0 0) 0 := by
        unfold njudge
        rw [cif_t hc5, i_cl (show c < 2 ^ 31 by omega), cif_t (Or.inl hq)]
      exact loop c hc (S 0 0) 0 (by omega) hr
    · skip
      rw [i_cl (show c < 2 ^ 31 by omega), g1] at h19
      refine e_aload_n dX10_judge_22 rfl 0 rfl ?_
      refine e_getR dX10_judge_23 lkX10_81 tt_0 rfl ?_
      refine e_getR dX10_judge_26 lkX10_351 tt_117 rfl ?_
      refine e_iload_n dX10_judge_29 rfl 1 rfl ?_
      refine e_iald dX10_judge_30 tt_118 (vp_in_nI (by omega) (by decide)) ?_
      refine e_if_eq (t := 37) dX10_judge_31 (by decide) (fun h31 => ?_) (fun h31 => ?_)
      · skip
        rw [i_cl (show c < 2 ^ 31 by omega), g1] at h31
        have hq := h31
        refine e_iconst (v := 0) dX10_judge_37 rfl ?_
        refine e_istore_n [(0, .ref 0), (1, .int (nI c)), (2, .int i), (3, .int (nI 0))] dX10_judge_38 rfl (by decide) rfl ?_
        have hr : njudge p S t (nI c) i = njF p S t c i (S 0 0) 0 := by
          unfold njudge
          rw [cif_t hc5, i_cl (show c < 2 ^ 31 by omega), cif_t (Or.inr hq)]
        exact loop c hc (S 0 0) 0 (by omega) hr
      · skip
        rw [i_cl (show c < 2 ^ 31 by omega), g1] at h31
        refine e_bipush (v := (-12)) dX10_judge_34 rfl ?_
        refine e_reti dX10_judge_36 ev_nwi (Nat.le_refl _) (Nat.le_refl _) ?_
        have hr : njudge p S t (nI c) i = -12 := by
          unfold njudge
          rw [cif_t hc5, i_cl (show c < 2 ^ 31 by omega), cif_f (fun z => z.elim h19 h31)]
        rw [hr]
        exact ⟨rfl, rfl, rfl⟩
  · skip
    rw [q1] at h4
    have hno := bI_eq0.mp h4
    refine e_iconst (v := (-1)) dX10_judge_7 rfl ?_
    refine e_reti dX10_judge_8 ev_nwi (Nat.le_refl _) (Nat.le_refl _) ?_
    have hr : njudge p S t x i = -1 := by
      unfold njudge
      rw [cif_f hno]
    rw [hr]
    exact ⟨rfl, rfl, rfl⟩

set_option maxRecDepth 100000 in
theorem c11_judge {p : Nat} (hp : gP p) {S : ns_T} (hV : VS S) {t : tp_T} (hT : TPV t) {x i : Int32} {σ : ex_S} {μ : ex_L}(hF : FR σ p) (hR : NR σ S) (hD : TPR σ μ t) : Ci 6 yX11_judge cX11_judge 4 (some .int) [.ref 127, .int x, .int i] TT σ μ (fun z' σ' μ' => z' = njudge p S t x i ∧ σ' = σ ∧ μ' = μ) := by
  refine Cl_of (by decide +kernel) (Nat.le_of_ble_eq_true rfl) ?_
  show Ev RX11 cX11_judge 4 6 0 0 "judge" (some .int) ev_ext _ _ 0 0 0 [(0, .ref 127), (1, .int x), (2, .int i)] [] TT σ μ
  have hn := hV.1
  have h2n := two_n hV
  have loop : ∀ (c : Nat), c ≤ 5 → ∀ (m k : Nat), k + m = S 0 0 → njudge p S t x i = njF p S t c i m k → Ev RX11 cX11_judge 4 6 0 0 "judge" (some .int) ev_ext TT.length (fun v9 T9 σ9 μ9 => T9 = TT ∧ ∃ z9, v9 = some (.int z9) ∧ (fun z' σ' μ' => z' = njudge p S t x i ∧ σ' = σ ∧ μ' = μ) z9 σ9 μ9) 0 0 35 [(0, .ref 127), (1, .int (nI c)), (2, .int i), (3, .int (nI k))] [] TT σ μ := by
    intro c hc m
    obtain ⟨g1, g2, g3⟩ := hD c (by omega)
    obtain ⟨w1, w2⟩ := hT c (by omega)
    induction m with
    | zero =>
      intro k hk hr
      obtain rfl : k = S 0 0 := by omega
      refine e_iload_n dX11_judge_35 rfl 3 rfl ?_
      refine e_aload_n dX11_judge_36 rfl 0 rfl ?_
      refine e_getI dX11_judge_37 lkX11_95 tt_127 rfl ?_
      rw [hR.1]
      refine e_icmp_ge (t := 123) dX11_judge_40 (by decide) (fun h40 => ?_) (fun h40 => ?_)
      · skip
        refine e_bipush (v := (-5)) dX11_judge_123 rfl ?_
        refine e_reti dX11_judge_125 ev_nwi (Nat.le_refl _) (Nat.le_refl _) ?_
        exact ⟨by rw [hr]; rfl, rfl, rfl⟩
      · skip
        exact absurd (show nI (S 0 0) ≤ nI (S 0 0) from (i_le (by omega) (by omega)).mpr (by omega)) h40
    | succ m ih =>
      intro k hk hr
      have um := (hR.2.2.2.1 k (by omega)).2.2.2.2.1
      have hsl := nsym_lt hp hV k
      refine e_iload_n dX11_judge_35 rfl 3 rfl ?_
      refine e_aload_n dX11_judge_36 rfl 0 rfl ?_
      refine e_getI dX11_judge_37 lkX11_95 tt_127 rfl ?_
      rw [hR.1]
      refine e_icmp_ge (t := 123) dX11_judge_40 (by decide) (fun h40 => ?_) (fun h40 => ?_)
      · skip
        exact absurd ((i_le (by omega) (by omega)).mp (show nI (S 0 0) ≤ nI k from h40)) (by omega)
      · skip
        refine e_aload_n dX11_judge_43 rfl 0 rfl ?_
        refine e_getR dX11_judge_44 lkX11_81 tt_127 rfl ?_
        refine e_iload_n dX11_judge_47 rfl 1 rfl ?_
        refine e_iald dX11_judge_48 tt_151 (vp_in_nI (by omega) (by decide)) ?_
        refine e_iconst (v := (-1)) dX11_judge_49 rfl ?_
        refine e_icmp_eq (t := 73) dX11_judge_50 (by decide) (fun h50 => ?_) (fun h50 => ?_)
        · skip
          skip
          refine e_bipush (v := 100) dX11_judge_73 rfl ?_
          refine e_iload_n dX11_judge_75 rfl 3 rfl ?_
          refine e_iadd dX11_judge_76 ?_
          refine e_reti dX11_judge_77 ev_nwi (Nat.le_refl _) (Nat.le_refl _) ?_
          rw [i_100]
          exact ⟨by rw [hr, njF_out (fun z => by
            rw [i_cl (show c < 2 ^ 31 by omega), g1] at h50
            have a1 := Int32.le_iff_toInt_le.mp z.1
            have : (0 : Int32).toInt = 0 := by decide
            rcases w2 with ⟨_, q⟩ | ⟨s, hs, q⟩
            · omega
            · exact absurd (q.symm.trans h50) (ni_m1 (by omega)))], rfl, rfl⟩
        · skip
          refine e_iload_n dX11_judge_53 rfl 2 rfl ?_
          refine e_if_lt (t := 73) dX11_judge_54 (by decide) (fun h54 => ?_) (fun h54 => ?_)
          · skip
            skip
            refine e_bipush (v := 100) dX11_judge_73 rfl ?_
            refine e_iload_n dX11_judge_75 rfl 3 rfl ?_
            refine e_iadd dX11_judge_76 ?_
            refine e_reti dX11_judge_77 ev_nwi (Nat.le_refl _) (Nat.le_refl _) ?_
            rw [i_100]
            exact ⟨by rw [hr, njF_out (fun z => nlt_0 h54 z.1)], rfl, rfl⟩
          · skip
            obtain ⟨a, ha, hia⟩ := i_any (fa_of_nlt h54)
            subst hia
            refine e_iload_n dX11_judge_57 rfl 2 rfl ?_
            refine e_i2l dX11_judge_58 ?_
            refine e_iload_n dX11_judge_59 rfl 3 rfl ?_
            refine e_i2l dX11_judge_60 ?_
            refine e_ladd dX11_judge_61 ?_
            refine e_aload_n dX11_judge_62 rfl 0 rfl ?_
            refine e_getR dX11_judge_63 lkX11_84 tt_127 rfl ?_
            refine e_iload_n dX11_judge_66 rfl 1 rfl ?_
            refine e_iald dX11_judge_67 tt_152 (vp_in_nI (by omega) (by decide)) ?_
            refine e_i2l dX11_judge_68 ?_
            refine e_lcmp dX11_judge_69 ?_
            rw [nI_l ha, nI_l (show k < 2 ^ 31 by omega), lN_add, i_cl (show c < 2 ^ 31 by omega), g2, nI_l (show t.2.1 c < 2 ^ 31 by omega), lcmpN (by omega) (by omega)]
            refine e_if_lt (t := 78) dX11_judge_70 (by decide) (fun h70 => ?_) (fun h70 => ?_)
            · skip
              have hak : a + k < t.2.1 c := by
                by_cases q : t.2.1 c < a + k
                · rw [if_pos q] at h70; exact absurd h70 (by decide)
                · by_cases q2 : a + k = t.2.1 c
                  · rw [if_neg q, if_pos q2] at h70; exact absurd h70 (by decide)
                  · omega
              have hin : 0 ≤ nI a ∧ (nI a).toInt + k < t.2.1 c := ⟨i_nn ha, by rw [i_toInt ha]; omega⟩
              refine e_aload_n dX11_judge_78 rfl 0 rfl ?_
              refine e_getR dX11_judge_79 lkX11_87 tt_127 rfl ?_
              refine e_bipush (v := 60) dX11_judge_82 rfl ?_
              refine e_iload_n dX11_judge_84 rfl 1 rfl ?_
              refine e_imul dX11_judge_85 ?_
              refine e_iload_n dX11_judge_86 rfl 2 rfl ?_
              refine e_iadd dX11_judge_87 ?_
              refine e_iload_n dX11_judge_88 rfl 3 rfl ?_
              refine e_iadd dX11_judge_89 ?_
              rw [nI_60, i_add]
              refine e_lald dX11_judge_90 tt_153 (vp_in_nI (by omega) (by decide)) ?_
              refine e_aload_n dX11_judge_91 rfl 0 rfl ?_
              refine e_getR dX11_judge_92 lkX11_33 tt_127 rfl ?_
              refine e_iload_n dX11_judge_95 rfl 3 rfl ?_
              refine e_iald dX11_judge_96 tt_135 (vp_in_nI (by omega) (by decide)) ?_
              refine e_iconst (v := 1) dX11_judge_97 rfl ?_
              refine e_icmp_ne (t := 105) dX11_judge_98 (by decide) (fun h98 => ?_) (fun h98 => ?_)
              · skip
                have hm : ¬ (S 0 3).testBit k = true := fun q => h98 (by rw [i_cl (by omega), um, q]; rfl)
                refine e_aload_n dX11_judge_105 rfl 0 rfl ?_
                refine e_iload_n dX11_judge_106 rfl 3 rfl ?_
                refine e_callVi dX11_judge_107 cvX11_187 rfl tt_127 rfl (c11_symbol hp hV hF hR (j := k) (by omega)) (Nat.le_of_ble_eq_true rfl) (Nat.le_refl _) (Nat.le_refl _) rfl (Nat.le_of_ble_eq_true rfl) (fun r107 s107 m107 q107 => ?_)
                obtain ⟨q107, e107, g107⟩ := q107
                rw [e107, g107]
                clear e107 g107 s107 m107
                refine e_i2l dX11_judge_110 ?_
                rw [i_cl (show 60 * c + a + k < 2 ^ 31 by omega), show 60 * c + a + k = 60 * c + (a + k) from Nat.add_assoc _ _ _, g3 _ (by omega)]
                rw [q107, show nI (nsym p S k) = nshow p S k from (if_neg hm).symm]
                refine e_lcmp dX11_judge_111 ?_
                refine e_if_eq (t := 117) dX11_judge_112 (by decide) (fun h112 => ?_) (fun h112 => ?_)
                · skip
                  have heq : t.2.2 c ((nI a).toNatClampNeg + k) = (nshow p S k).toInt64 := by rw [i_cl ha]; exact lcmp_eq0.mp h112
                  refine e_iinc (nI (k + 1)) [(0, .ref 127), (1, .int (nI c)), (2, .int (nI a)), (3, .int (nI (k + 1)))] dX11_judge_117 3 rfl (nI_1 k) (by decide) rfl ?_
                  refine e_goto (t := 35) dX11_judge_120 (by decide) ?_
                  exact ih (k + 1) (by omega) (by rw [hr, njF_eq hin heq])
                · skip
                  have hne : ¬ t.2.2 c ((nI a).toNatClampNeg + k) = (nshow p S k).toInt64 := fun q => h112 (lcmp_eq0.mpr (by rw [i_cl ha] at q; exact q))
                  refine e_iload_n dX11_judge_115 rfl 3 rfl ?_
                  refine e_reti dX11_judge_116 ev_nwi (Nat.le_refl _) (Nat.le_refl _) ?_
                  exact ⟨by rw [hr, njF_ne hin hne], rfl, rfl⟩
              · skip
                have hm : (S 0 3).testBit k = true := by
                  cases hb9 : (S 0 3).testBit k with
                  | true => rfl
                  | false => exact absurd (show nI 0 = nI 1 from by rw [i_cl (by omega), um, hb9] at h98; exact h98) (by decide)
                refine e_iconst (v := (-1)) dX11_judge_101 rfl ?_
                refine e_goto (t := 110) dX11_judge_102 (by decide) ?_
                refine e_i2l dX11_judge_110 ?_
                rw [i_cl (show 60 * c + a + k < 2 ^ 31 by omega), show 60 * c + a + k = 60 * c + (a + k) from Nat.add_assoc _ _ _, g3 _ (by omega)]
                rw [show (-1 : Int32) = nshow p S k from (if_pos hm).symm]
                refine e_lcmp dX11_judge_111 ?_
                refine e_if_eq (t := 117) dX11_judge_112 (by decide) (fun h112 => ?_) (fun h112 => ?_)
                · skip
                  have heq : t.2.2 c ((nI a).toNatClampNeg + k) = (nshow p S k).toInt64 := by rw [i_cl ha]; exact lcmp_eq0.mp h112
                  refine e_iinc (nI (k + 1)) [(0, .ref 127), (1, .int (nI c)), (2, .int (nI a)), (3, .int (nI (k + 1)))] dX11_judge_117 3 rfl (nI_1 k) (by decide) rfl ?_
                  refine e_goto (t := 35) dX11_judge_120 (by decide) ?_
                  exact ih (k + 1) (by omega) (by rw [hr, njF_eq hin heq])
                · skip
                  have hne : ¬ t.2.2 c ((nI a).toNatClampNeg + k) = (nshow p S k).toInt64 := fun q => h112 (lcmp_eq0.mpr (by rw [i_cl ha] at q; exact q))
                  refine e_iload_n dX11_judge_115 rfl 3 rfl ?_
                  refine e_reti dX11_judge_116 ev_nwi (Nat.le_refl _) (Nat.le_refl _) ?_
                  exact ⟨by rw [hr, njF_ne hin hne], rfl, rfl⟩
            · skip
              skip
              refine e_bipush (v := 100) dX11_judge_73 rfl ?_
              refine e_iload_n dX11_judge_75 rfl 3 rfl ?_
              refine e_iadd dX11_judge_76 ?_
              refine e_reti dX11_judge_77 ev_nwi (Nat.le_refl _) (Nat.le_refl _) ?_
              rw [i_100]
              exact ⟨by rw [hr, njF_out (fun z => by
                have z2 := z.2
                rw [i_toInt ha] at z2
                rw [if_neg (by omega), if_neg (by omega)] at h70
                exact absurd (by decide) h70)], rfl, rfl⟩
  refine e_iload_n dX11_judge_0 rfl 1 rfl ?_
  refine e_iconst (v := 0) dX11_judge_1 rfl ?_
  refine e_iconst (v := 5) dX11_judge_2 rfl ?_
  refine e_callSi dX11_judge_3 cvX11_99 rfl (c11_within x 0 5) (Nat.le_of_ble_eq_true rfl) (Nat.le_refl _) (Nat.le_refl _) rfl (Nat.le_of_ble_eq_true rfl) (fun r3 s3 m3 q3 => ?_)
  obtain ⟨q3, e3, g3⟩ := q3
  rw [e3, g3]
  clear e3 g3 s3 m3
  refine e_if_ne (t := 11) dX11_judge_6 (by decide) (fun h6 => ?_) (fun h6 => ?_)
  · skip
    rw [q3, bI_eq0] at h6
    have hP := Classical.not_not.mp h6
    obtain ⟨c, hc, rfl⟩ := i_of (x := x) (m := 5) (by omega) hP.1 (show _ ≤ nI (5) from hP.2)
    obtain ⟨g1, g2, g3⟩ := hD c (by omega)
    have hc5 := h05 hc
    refine e_aload_n dX11_judge_11 rfl 0 rfl ?_
    refine e_getR dX11_judge_12 lkX11_81 tt_127 rfl ?_
    refine e_iload_n dX11_judge_15 rfl 1 rfl ?_
    refine e_iald dX11_judge_16 tt_151 (vp_in_nI (by omega) (by decide)) ?_
    refine e_iconst (v := (-1)) dX11_judge_17 rfl ?_
    refine e_icmp_eq (t := 33) dX11_judge_18 (by decide) (fun h18 => ?_) (fun h18 => ?_)
    · skip
      rw [i_cl (show c < 2 ^ 31 by omega), g1] at h18
      have hq := h18
      refine e_iconst (v := 0) dX11_judge_33 rfl ?_
      refine e_istore_n [(0, .ref 127), (1, .int (nI c)), (2, .int i), (3, .int (nI 0))] dX11_judge_34 rfl (by decide) rfl ?_
      have hr : njudge p S t (nI c) i = njF p S t c i (S 0 0) 0 := by
        unfold njudge
        rw [cif_t hc5, i_cl (show c < 2 ^ 31 by omega), cif_t (Or.inl hq)]
      exact loop c hc (S 0 0) 0 (by omega) hr
    · skip
      rw [i_cl (show c < 2 ^ 31 by omega), g1] at h18
      refine e_aload_n dX11_judge_21 rfl 0 rfl ?_
      refine e_getR dX11_judge_22 lkX11_81 tt_127 rfl ?_
      refine e_iload_n dX11_judge_25 rfl 1 rfl ?_
      refine e_iald dX11_judge_26 tt_151 (vp_in_nI (by omega) (by decide)) ?_
      refine e_if_eq (t := 33) dX11_judge_27 (by decide) (fun h27 => ?_) (fun h27 => ?_)
      · skip
        rw [i_cl (show c < 2 ^ 31 by omega), g1] at h27
        have hq := h27
        refine e_iconst (v := 0) dX11_judge_33 rfl ?_
        refine e_istore_n [(0, .ref 127), (1, .int (nI c)), (2, .int i), (3, .int (nI 0))] dX11_judge_34 rfl (by decide) rfl ?_
        have hr : njudge p S t (nI c) i = njF p S t c i (S 0 0) 0 := by
          unfold njudge
          rw [cif_t hc5, i_cl (show c < 2 ^ 31 by omega), cif_t (Or.inr hq)]
        exact loop c hc (S 0 0) 0 (by omega) hr
      · skip
        rw [i_cl (show c < 2 ^ 31 by omega), g1] at h27
        refine e_bipush (v := (-12)) dX11_judge_30 rfl ?_
        refine e_reti dX11_judge_32 ev_nwi (Nat.le_refl _) (Nat.le_refl _) ?_
        have hr : njudge p S t (nI c) i = -12 := by
          unfold njudge
          rw [cif_t hc5, i_cl (show c < 2 ^ 31 by omega), cif_f (fun z => z.elim h18 h27)]
        rw [hr]
        exact ⟨rfl, rfl, rfl⟩
  · skip
    rw [q3] at h6
    have hno := bI_eq0.mp h6
    refine e_iconst (v := (-1)) dX11_judge_9 rfl ?_
    refine e_reti dX11_judge_10 ev_nwi (Nat.le_refl _) (Nat.le_refl _) ?_
    have hr : njudge p S t x i = -1 := by
      unfold njudge
      rw [cif_f hno]
    rw [hr]
    exact ⟨rfl, rfl, rfl⟩
