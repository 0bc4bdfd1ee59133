set_option maxRecDepth 100000 in
theorem c5_add_52 {z u v : Nat} {σ : ex_S} {μ : ex_L}(hz : σ 52 2 = nI z) (hz2 : z ≤ 5) : Ci 3 yX5_add cX5_add 3 (some .boolean) [.ref 52, .int (nI u), .int (nI v)] TT σ μ (fun z' σ' μ' => z' = bI (z < 5) ∧ (z < 5 → σ' = sup (sup (sup σ 53 z (nI u)) 54 z (nI v)) 52 2 (nI (z + 1))) ∧ (¬ z < 5 → σ' = σ) ∧ μ' = μ) := by
  refine Cl_of (by decide +kernel) (Nat.le_of_ble_eq_true rfl) ?_
  show Ev RX5 cX5_add 3 3 0 0 "add" (some .boolean) ev_ext _ _ 0 0 0 [(0, .ref 52), (1, .int (nI u)), (2, .int (nI v))] [] TT σ μ
  refine e_aload_n dX5_add_0 rfl 0 rfl ?_
  refine e_getI dX5_add_1 lkX5_22 (pairs_0 pairs_52_) rfl ?_
  refine e_aload_n dX5_add_4 rfl 0 rfl ?_
  refine e_getR dX5_add_5 lkX5_13 (pairs_0 pairs_52_) rfl ?_
  refine e_alen dX5_add_8 (pairs_1 pairs_52_) (Nat.le_of_ble_eq_true rfl) ?_
  rw [hz]
  refine e_icmp_lt (t := 14) dX5_add_9 (by decide) (fun h9 => ?_) (fun h9 => ?_)
  · skip
    have hz3 : z < 5 := (i_lt (b := 5) (by omega) (by decide)).mp h9
    refine e_aload_n dX5_add_14 rfl 0 rfl ?_
    refine e_getR dX5_add_15 lkX5_13 (pairs_0 pairs_52_) rfl ?_
    refine e_aload_n dX5_add_18 rfl 0 rfl ?_
    refine e_getI dX5_add_19 lkX5_22 (pairs_0 pairs_52_) rfl ?_
    rw [hz]
    refine e_iload_n dX5_add_22 rfl 1 rfl ?_
    refine e_iast dX5_add_23 (pairs_1 pairs_52_) (vp_in_nI hz3 (by decide)) ?_
    refine e_aload_n dX5_add_24 rfl 0 rfl ?_
    refine e_getR dX5_add_25 lkX5_19 (pairs_0 pairs_52_) rfl ?_
    refine e_aload_n dX5_add_28 rfl 0 rfl ?_
    refine e_getI dX5_add_29 lkX5_22 (pairs_0 pairs_52_) rfl ?_
    rw [sup_obj (by decide), hz, i_cl (by omega)]
    refine e_iload_n dX5_add_32 rfl 2 rfl ?_
    refine e_iast dX5_add_33 (pairs_2 pairs_52_) (vp_in_nI hz3 (by decide)) ?_
    refine e_aload_n dX5_add_34 rfl 0 rfl ?_
    refine e_dup dX5_add_35 rfl ?_
    refine e_getI dX5_add_36 lkX5_22 (pairs_0 pairs_52_) rfl ?_
    rw [sup_obj (by decide), sup_obj (by decide), hz, i_cl (by omega)]
    refine e_iconst (v := 1) dX5_add_39 rfl ?_
    refine e_iadd dX5_add_40 ?_
    rw [show nI z + 1 = nI (z + 1) from nI_1 z]
    refine e_putI dX5_add_41 lkX5_22' (pairs_0 pairs_52_) rfl rfl rfl ?_
    refine e_iconst (v := 1) dX5_add_44 rfl ?_
    refine e_reti dX5_add_45 ev_nw1 (Nat.le_refl _) (Nat.le_refl _) ?_
    exact ⟨(bI_t hz3).symm, fun _ => rfl, fun q => absurd hz3 q, rfl⟩
  · skip
    have hz3 : ¬ z < 5 := fun q => h9 ((i_lt (b := 5) (by omega) (by decide)).mpr q)
    refine e_iconst (v := 0) dX5_add_12 rfl ?_
    refine e_reti dX5_add_13 ev_nw0 (Nat.le_refl _) (Nat.le_refl _) ?_
    exact ⟨(bI_f hz3).symm, fun q => absurd q hz3, fun _ => rfl, rfl⟩

set_option maxRecDepth 100000 in
theorem c5_add_55 {z u v : Nat} {σ : ex_S} {μ : ex_L}(hz : σ 55 2 = nI z) (hz2 : z ≤ 10) : Ci 3 yX5_add cX5_add 3 (some .boolean) [.ref 55, .int (nI u), .int (nI v)] TT σ μ (fun z' σ' μ' => z' = bI (z < 10) ∧ (z < 10 → σ' = sup (sup (sup σ 56 z (nI u)) 57 z (nI v)) 55 2 (nI (z + 1))) ∧ (¬ z < 10 → σ' = σ) ∧ μ' = μ) := by
  refine Cl_of (by decide +kernel) (Nat.le_of_ble_eq_true rfl) ?_
  show Ev RX5 cX5_add 3 3 0 0 "add" (some .boolean) ev_ext _ _ 0 0 0 [(0, .ref 55), (1, .int (nI u)), (2, .int (nI v))] [] TT σ μ
  refine e_aload_n dX5_add_0 rfl 0 rfl ?_
  refine e_getI dX5_add_1 lkX5_22 (pairs_0 pairs_55_) rfl ?_
  refine e_aload_n dX5_add_4 rfl 0 rfl ?_
  refine e_getR dX5_add_5 lkX5_13 (pairs_0 pairs_55_) rfl ?_
  refine e_alen dX5_add_8 (pairs_1 pairs_55_) (Nat.le_of_ble_eq_true rfl) ?_
  rw [hz]
  refine e_icmp_lt (t := 14) dX5_add_9 (by decide) (fun h9 => ?_) (fun h9 => ?_)
  · skip
    have hz3 : z < 10 := (i_lt (b := 10) (by omega) (by decide)).mp h9
    refine e_aload_n dX5_add_14 rfl 0 rfl ?_
    refine e_getR dX5_add_15 lkX5_13 (pairs_0 pairs_55_) rfl ?_
    refine e_aload_n dX5_add_18 rfl 0 rfl ?_
    refine e_getI dX5_add_19 lkX5_22 (pairs_0 pairs_55_) rfl ?_
    rw [hz]
    refine e_iload_n dX5_add_22 rfl 1 rfl ?_
    refine e_iast dX5_add_23 (pairs_1 pairs_55_) (vp_in_nI hz3 (by decide)) ?_
    refine e_aload_n dX5_add_24 rfl 0 rfl ?_
    refine e_getR dX5_add_25 lkX5_19 (pairs_0 pairs_55_) rfl ?_
    refine e_aload_n dX5_add_28 rfl 0 rfl ?_
    refine e_getI dX5_add_29 lkX5_22 (pairs_0 pairs_55_) rfl ?_
    rw [sup_obj (by decide), hz, i_cl (by omega)]
    refine e_iload_n dX5_add_32 rfl 2 rfl ?_
    refine e_iast dX5_add_33 (pairs_2 pairs_55_) (vp_in_nI hz3 (by decide)) ?_
    refine e_aload_n dX5_add_34 rfl 0 rfl ?_
    refine e_dup dX5_add_35 rfl ?_
    refine e_getI dX5_add_36 lkX5_22 (pairs_0 pairs_55_) rfl ?_
    rw [sup_obj (by decide), sup_obj (by decide), hz, i_cl (by omega)]
    refine e_iconst (v := 1) dX5_add_39 rfl ?_
    refine e_iadd dX5_add_40 ?_
    rw [show nI z + 1 = nI (z + 1) from nI_1 z]
    refine e_putI dX5_add_41 lkX5_22' (pairs_0 pairs_55_) rfl rfl rfl ?_
    refine e_iconst (v := 1) dX5_add_44 rfl ?_
    refine e_reti dX5_add_45 ev_nw1 (Nat.le_refl _) (Nat.le_refl _) ?_
    exact ⟨(bI_t hz3).symm, fun _ => rfl, fun q => absurd hz3 q, rfl⟩
  · skip
    have hz3 : ¬ z < 10 := fun q => h9 ((i_lt (b := 10) (by omega) (by decide)).mpr q)
    refine e_iconst (v := 0) dX5_add_12 rfl ?_
    refine e_reti dX5_add_13 ev_nw0 (Nat.le_refl _) (Nat.le_refl _) ?_
    exact ⟨(bI_f hz3).symm, fun q => absurd q hz3, fun _ => rfl, rfl⟩

set_option maxRecDepth 100000 in
theorem c5_add_58 {z u v : Nat} {σ : ex_S} {μ : ex_L}(hz : σ 58 2 = nI z) (hz2 : z ≤ 8) : Ci 3 yX5_add cX5_add 3 (some .boolean) [.ref 58, .int (nI u), .int (nI v)] TT σ μ (fun z' σ' μ' => z' = bI (z < 8) ∧ (z < 8 → σ' = sup (sup (sup σ 59 z (nI u)) 60 z (nI v)) 58 2 (nI (z + 1))) ∧ (¬ z < 8 → σ' = σ) ∧ μ' = μ) := by
  refine Cl_of (by decide +kernel) (Nat.le_of_ble_eq_true rfl) ?_
  show Ev RX5 cX5_add 3 3 0 0 "add" (some .boolean) ev_ext _ _ 0 0 0 [(0, .ref 58), (1, .int (nI u)), (2, .int (nI v))] [] TT σ μ
  refine e_aload_n dX5_add_0 rfl 0 rfl ?_
  refine e_getI dX5_add_1 lkX5_22 (pairs_0 pairs_58_) rfl ?_
  refine e_aload_n dX5_add_4 rfl 0 rfl ?_
  refine e_getR dX5_add_5 lkX5_13 (pairs_0 pairs_58_) rfl ?_
  refine e_alen dX5_add_8 (pairs_1 pairs_58_) (Nat.le_of_ble_eq_true rfl) ?_
  rw [hz]
  refine e_icmp_lt (t := 14) dX5_add_9 (by decide) (fun h9 => ?_) (fun h9 => ?_)
  · skip
    have hz3 : z < 8 := (i_lt (b := 8) (by omega) (by decide)).mp h9
    refine e_aload_n dX5_add_14 rfl 0 rfl ?_
    refine e_getR dX5_add_15 lkX5_13 (pairs_0 pairs_58_) rfl ?_
    refine e_aload_n dX5_add_18 rfl 0 rfl ?_
    refine e_getI dX5_add_19 lkX5_22 (pairs_0 pairs_58_) rfl ?_
    rw [hz]
    refine e_iload_n dX5_add_22 rfl 1 rfl ?_
    refine e_iast dX5_add_23 (pairs_1 pairs_58_) (vp_in_nI hz3 (by decide)) ?_
    refine e_aload_n dX5_add_24 rfl 0 rfl ?_
    refine e_getR dX5_add_25 lkX5_19 (pairs_0 pairs_58_) rfl ?_
    refine e_aload_n dX5_add_28 rfl 0 rfl ?_
    refine e_getI dX5_add_29 lkX5_22 (pairs_0 pairs_58_) rfl ?_
    rw [sup_obj (by decide), hz, i_cl (by omega)]
    refine e_iload_n dX5_add_32 rfl 2 rfl ?_
    refine e_iast dX5_add_33 (pairs_2 pairs_58_) (vp_in_nI hz3 (by decide)) ?_
    refine e_aload_n dX5_add_34 rfl 0 rfl ?_
    refine e_dup dX5_add_35 rfl ?_
    refine e_getI dX5_add_36 lkX5_22 (pairs_0 pairs_58_) rfl ?_
    rw [sup_obj (by decide), sup_obj (by decide), hz, i_cl (by omega)]
    refine e_iconst (v := 1) dX5_add_39 rfl ?_
    refine e_iadd dX5_add_40 ?_
    rw [show nI z + 1 = nI (z + 1) from nI_1 z]
    refine e_putI dX5_add_41 lkX5_22' (pairs_0 pairs_58_) rfl rfl rfl ?_
    refine e_iconst (v := 1) dX5_add_44 rfl ?_
    refine e_reti dX5_add_45 ev_nw1 (Nat.le_refl _) (Nat.le_refl _) ?_
    exact ⟨(bI_t hz3).symm, fun _ => rfl, fun q => absurd hz3 q, rfl⟩
  · skip
    have hz3 : ¬ z < 8 := fun q => h9 ((i_lt (b := 8) (by omega) (by decide)).mpr q)
    refine e_iconst (v := 0) dX5_add_12 rfl ?_
    refine e_reti dX5_add_13 ev_nw0 (Nat.le_refl _) (Nat.le_refl _) ?_
    exact ⟨(bI_f hz3).symm, fun q => absurd q hz3, fun _ => rfl, rfl⟩

set_option maxRecDepth 100000 in
theorem c10_tell_52 {S : ns_T} (hV : VS S) (hU : PSV S) {x v : Int32} {σ : ex_S} {μ : ex_L}(hC : NC σ 33 S) (hG : PG σ 52 S 10) : Ci 4 yX10_tellSymbol cX10_tellSymbol 4 (some .int) [.ref 0, .ref 52, .int x, .int v] TT σ μ (fun z' σ' μ' => z' = (ntell 5 10 S x v).1 ∧ PG σ' 52 (ntell 5 10 S x v).2 10 ∧ (∀ i, (i < 52 ∨ 54 < i) → σ' i = σ i) ∧ μ' = μ) := by
  refine Cl_of (by decide +kernel) (Nat.le_of_ble_eq_true rfl) ?_
  show Ev RX10 cX10_tellSymbol 4 4 0 0 "tellSymbol" (some .int) ev_ext _ _ 0 0 0 [(0, .ref 0), (1, .ref 52), (2, .int x), (3, .int v)] [] TT σ μ
  have hn := hV.1
  have h2n := two_n hV
  have hz2 := hU.1
  refine e_iload_n dX10_tellSymbol_0 rfl 2 rfl ?_
  refine e_iconst (v := (-1)) dX10_tellSymbol_1 rfl ?_
  refine e_icmp_ne (t := 12) dX10_tellSymbol_2 (by decide) (fun h2 => ?_) (fun h2 => ?_)
  · skip
    refine e_aload_n dX10_tellSymbol_12 rfl 0 rfl ?_
    refine e_getR dX10_tellSymbol_13 lkX10_46 tt_0 rfl ?_
    refine e_getR dX10_tellSymbol_16 lkX10_89 (store_0 store_32_) rfl ?_
    refine e_iload_n dX10_tellSymbol_19 rfl 2 rfl ?_
    refine e_callVi dX10_tellSymbol_20 cvX10_165 rfl (nodes_0 (store_n store_32_)) rfl (c3_hasN nodes_33_ hC x) (Nat.le_of_ble_eq_true rfl) (Nat.le_refl _) (Nat.le_refl _) rfl (Nat.le_of_ble_eq_true rfl) (fun r20 s20 m20 q20 => ?_)
    obtain ⟨q20, e20, g20⟩ := q20
    rw [e20, g20]
    clear e20 g20 s20 m20
    refine e_if_ne (t := 28) dX10_tellSymbol_23 (by decide) (fun h23 => ?_) (fun h23 => ?_)
    · skip
      rw [q20, bI_eq0] at h23
      have hP := Classical.not_not.mp h23
      refine e_iload_n dX10_tellSymbol_28 rfl 3 rfl ?_
      refine e_callSi dX10_tellSymbol_29 cvX10_121 rfl (c10_isNumber v) (Nat.le_of_ble_eq_true rfl) (Nat.le_refl _) (Nat.le_refl _) rfl (Nat.le_of_ble_eq_true rfl) (fun r29 s29 m29 q29 => ?_)
      obtain ⟨q29, e29, g29⟩ := q29
      rw [e29, g29]
      clear e29 g29 s29 m29
      refine e_if_ne (t := 38) dX10_tellSymbol_32 (by decide) (fun h32 => ?_) (fun h32 => ?_)
      · skip
        rw [q29, bI_eq0] at h32
        have hW := Classical.not_not.mp h32
        obtain ⟨k, hk, rfl⟩ := i_ofl (x := x) (m := S 0 0) (by omega) hP.1 (show _ < nI (S 0 0) from hP.2)
        obtain ⟨c, hc, rfl⟩ := i_of (x := v) (m := 15) (by omega) hW.1 (show _ ≤ nI (15) from hW.2)
        refine e_aload_n dX10_tellSymbol_38 rfl 1 rfl ?_
        refine e_iload_n dX10_tellSymbol_39 rfl 2 rfl ?_
        refine e_iload_n dX10_tellSymbol_40 rfl 3 rfl ?_
        refine e_callVi dX10_tellSymbol_41 cvX10_283 rfl (pairs_0 pairs_52_) rfl (c5_add_52 (z := S 10 0) (u := k) (v := c) hG.1 hz2) (Nat.le_of_ble_eq_true rfl) (Nat.le_refl _) (Nat.le_refl _) rfl (Nat.le_of_ble_eq_true rfl) (fun r41 s41 m41 q41 => ?_)
        obtain ⟨q41, a1, a2, a3⟩ := q41
        rw [a3]
        refine e_if_eq (t := 54) dX10_tellSymbol_44 (by decide) (fun h44 => ?_) (fun h44 => ?_)
        · skip
          rw [q41, bI_eq0] at h44
          refine e_bipush (v := (-4)) dX10_tellSymbol_54 rfl ?_
          refine e_reti dX10_tellSymbol_56 ev_nwi (Nat.le_refl _) (Nat.le_refl _) ?_
          have hr : ntell 5 10 S (nI k) (nI c) = (-4, S) := by
            unfold ntell
            rw [cif_f (ni_m1 (show k < 2 ^ 31 by omega)), cif_t (nhas hV hk), cif_t hW, cif_f h44]
          rw [hr, a2 h44]
          exact ⟨rfl, hG, fun _ _ => rfl, rfl⟩
        · skip
          rw [q41, bI_eq0] at h44
          have hlt := Classical.not_not.mp h44
          have a1 := a1 hlt
          subst a1
          refine e_aload_n dX10_tellSymbol_47 rfl 1 rfl ?_
          refine e_getI dX10_tellSymbol_48 lkX10_280 (pairs_0 pairs_52_) rfl ?_
          refine e_goto (t := 56) dX10_tellSymbol_51 (by decide) ?_
          refine e_reti dX10_tellSymbol_56 ev_nwi (Nat.le_refl _) (Nat.le_refl _) ?_
          have hr : ntell 5 10 S (nI k) (nI c) = (nI (S 10 0 + 1), nadd S 10 k c) := by
            unfold ntell
            rw [cif_f (ni_m1 (show k < 2 ^ 31 by omega)), cif_t (nhas hV hk), cif_t hW, i_cl (show k < 2 ^ 31 by omega), i_cl (show c < 2 ^ 31 by omega), cif_t hlt]
          rw [hr, sup_same]
          exact ⟨rfl, hG.add, fun i hi => by rw [sup_obj (by omega), sup_obj (by omega), sup_obj (by omega)], rfl⟩
      · skip
        rw [q29] at h32
        have h32 := bI_eq0.mp h32
        refine e_bipush (v := (-2)) dX10_tellSymbol_35 rfl ?_
        refine e_reti dX10_tellSymbol_37 ev_nwi (Nat.le_refl _) (Nat.le_refl _) ?_
        have hr : ntell 5 10 S x v = (-2, S) := by
          unfold ntell
          rw [cif_f h2, cif_t hP, cif_f h32]
        rw [hr]
        exact ⟨rfl, hG, fun _ _ => rfl, rfl⟩
    · skip
      rw [q20] at h23
      have h23 := bI_eq0.mp h23
      refine e_iconst (v := (-1)) dX10_tellSymbol_26 rfl ?_
      refine e_reti dX10_tellSymbol_27 ev_nwi (Nat.le_refl _) (Nat.le_refl _) ?_
      have hr : ntell 5 10 S x v = (-1, S) := by
        unfold ntell
        rw [cif_f h2, cif_f h23]
      rw [hr]
      exact ⟨rfl, hG, fun _ _ => rfl, rfl⟩
  · skip
    subst h2
    refine e_aload_n dX10_tellSymbol_5 rfl 1 rfl ?_
    refine e_iconst (v := 0) dX10_tellSymbol_6 rfl ?_
    refine e_putI dX10_tellSymbol_7 lkX10_280' (pairs_0 pairs_52_) rfl rfl rfl ?_
    refine e_iconst (v := 0) dX10_tellSymbol_10 rfl ?_
    refine e_reti dX10_tellSymbol_11 ev_nwi (Nat.le_refl _) (Nat.le_refl _) ?_
    have hr : ntell 5 10 S (-1) v = (0, nclr S 10) := by
      unfold ntell
      rw [cif_t rfl]
    rw [hr]
    exact ⟨rfl, PG.clr, fun i hi => sup_obj (by omega), rfl⟩

set_option maxRecDepth 100000 in
theorem c10_see {S : ns_T} (hV : VS S) (hU : PSV S) {x v : Int32} {σ : ex_S} {μ : ex_L}(hC : NC σ 33 S) (hG : PG σ 52 S 10) : Ci 5 yX10_see cX10_see 3 (some .int) [.ref 0, .int x, .int v] TT σ μ (fun z' σ' μ' => z' = (ntell 5 10 S x v).1 ∧ PG σ' 52 (ntell 5 10 S x v).2 10 ∧ (∀ i, (i < 52 ∨ 54 < i) → σ' i = σ i) ∧ μ' = μ) := by
  refine Cl_of (by decide +kernel) (Nat.le_of_ble_eq_true rfl) ?_
  show Ev RX10 cX10_see 3 5 0 0 "see" (some .int) ev_ext _ _ 0 0 0 [(0, .ref 0), (1, .int x), (2, .int v)] [] TT σ μ
  refine e_aload_n dX10_see_0 rfl 0 rfl ?_
  refine e_aload_n dX10_see_1 rfl 0 rfl ?_
  refine e_getR dX10_see_2 lkX10_46 tt_0 rfl ?_
  refine e_getR dX10_see_5 lkX10_272 (store_0 store_32_) rfl ?_
  refine e_iload_n dX10_see_8 rfl 1 rfl ?_
  refine e_iload_n dX10_see_9 rfl 2 rfl ?_
  refine e_callVi dX10_see_10 cvX10_276 rfl tt_0 rfl (c10_tell_52 hV hU hC hG (x := x) (v := v)) (Nat.le_of_ble_eq_true rfl) (Nat.le_refl _) (Nat.le_refl _) rfl (Nat.le_of_ble_eq_true rfl) (fun r10 s10 m10 q10 => ?_)
  obtain ⟨q10, a1, a2, a3⟩ := q10
  refine e_reti dX10_see_13 ev_nwi (Nat.le_refl _) (Nat.le_refl _) ?_
  exact ⟨q10, a1, a2, a3⟩

set_option maxRecDepth 100000 in
theorem c11_see {S : ns_T} (hV : VS S) (hU : PSV S) {x v : Int32} {σ : ex_S} {μ : ex_L}(hR : NR σ S) (hG : PH σ 22 142 S 10) : Ci 4 yX11_see cX11_see 3 (some .int) [.ref 127, .int x, .int v] TT σ μ (fun z' σ' μ' => z' = (ntell 5 10 S x v).1 ∧ PH σ' 22 142 (ntell 5 10 S x v).2 10 ∧ (∀ i, i ≠ 127 → i ≠ 142 → i ≠ 143 → σ' i = σ i) ∧ (∀ k, k ≠ 22 → σ' 127 k = σ 127 k) ∧ μ' = μ) := by
  refine Cl_of (by decide +kernel) (Nat.le_of_ble_eq_true rfl) ?_
  show Ev RX11 cX11_see 3 4 0 0 "see" (some .int) ev_ext _ _ 0 0 0 [(0, .ref 127), (1, .int x), (2, .int v)] [] TT σ μ
  have hn := hV.1
  have h2n := two_n hV
  have hz2 := hU.1
  refine e_iload_n dX11_see_0 rfl 1 rfl ?_
  refine e_iconst (v := (-1)) dX11_see_1 rfl ?_
  refine e_icmp_ne (t := 12) dX11_see_2 (by decide) (fun h2 => ?_) (fun h2 => ?_)
  · skip
    refine e_aload_n dX11_see_12 rfl 0 rfl ?_
    refine e_iload_n dX11_see_13 rfl 1 rfl ?_
    refine e_callVi dX11_see_14 cvX11_169 rfl tt_127 rfl (c11_isOneN hV hR x) (Nat.le_of_ble_eq_true rfl) (Nat.le_refl _) (Nat.le_refl _) rfl (Nat.le_of_ble_eq_true rfl) (fun r14 s14 m14 q14 => ?_)
    obtain ⟨q14, e14, g14⟩ := q14
    rw [e14, g14]
    clear e14 g14 s14 m14
    refine e_if_ne (t := 22) dX11_see_17 (by decide) (fun h17 => ?_) (fun h17 => ?_)
    · skip
      rw [q14, bI_eq0] at h17
      have hP := Classical.not_not.mp h17
      refine e_iload_n dX11_see_22 rfl 2 rfl ?_
      refine e_callSi dX11_see_23 cvX11_125 rfl (c11_isNumber v) (Nat.le_of_ble_eq_true rfl) (Nat.le_refl _) (Nat.le_refl _) rfl (Nat.le_of_ble_eq_true rfl) (fun r23 s23 m23 q23 => ?_)
      obtain ⟨q23, e23, g23⟩ := q23
      rw [e23, g23]
      clear e23 g23 s23 m23
      refine e_if_ne (t := 32) dX11_see_26 (by decide) (fun h26 => ?_) (fun h26 => ?_)
      · skip
        rw [q23, bI_eq0] at h26
        have hW := Classical.not_not.mp h26
        obtain ⟨k, hk, rfl⟩ := i_ofl (x := x) (m := S 0 0) (by omega) hP.1 (show _ < nI (S 0 0) from hP.2)
        obtain ⟨c, hc, rfl⟩ := i_of (x := v) (m := 15) (by omega) hW.1 (show _ ≤ nI (15) from hW.2)
        refine e_aload_n dX11_see_32 rfl 0 rfl ?_
        refine e_getI dX11_see_33 lkX11_245 tt_127 rfl ?_
        refine e_iconst (v := 5) dX11_see_36 rfl ?_
        rw [hG.1]
        refine e_icmp_ne (t := 43) dX11_see_37 (by decide) (fun h37 => ?_) (fun h37 => ?_)
        · skip
          have hlt : S 10 0 < 5 := by
            have : ¬ S 10 0 = 5 := fun q => h37 (by rw [q]; rfl)
            omega
          refine e_aload_n dX11_see_43 rfl 0 rfl ?_
          refine e_getR dX11_see_44 lkX11_54 tt_127 rfl ?_
          refine e_aload_n dX11_see_47 rfl 0 rfl ?_
          refine e_getI dX11_see_48 lkX11_245 tt_127 rfl ?_
          refine e_iload_n dX11_see_51 rfl 1 rfl ?_
          rw [hG.1]
          refine e_iast dX11_see_52 tt_142 (vp_in_nI hlt (by decide)) ?_
          rw [i_cl (by omega)]
          refine e_aload_n dX11_see_53 rfl 0 rfl ?_
          refine e_getR dX11_see_54 lkX11_57 tt_127 rfl ?_
          refine e_aload_n dX11_see_57 rfl 0 rfl ?_
          refine e_dup dX11_see_58 rfl ?_
          refine e_getI dX11_see_59 lkX11_245 tt_127 rfl ?_
          rw [sup_obj (show (127 : Nat) ≠ 142 by decide), hG.1]
          refine e_dup_x1 dX11_see_62 rfl rfl ?_
          refine e_iconst (v := 1) dX11_see_63 rfl ?_
          refine e_iadd dX11_see_64 ?_
          rw [show nI (S 10 0) + 1 = nI (S 10 0 + 1) from nI_1 _]
          refine e_putI dX11_see_65 lkX11_245' tt_127 rfl rfl rfl ?_
          refine e_iload_n dX11_see_68 rfl 2 rfl ?_
          refine e_iast dX11_see_69 tt_143 (vp_in_nI hlt (by decide)) ?_
          rw [i_cl (by omega)]
          refine e_aload_n dX11_see_70 rfl 0 rfl ?_
          refine e_getI dX11_see_71 lkX11_245 tt_127 rfl ?_
          refine e_reti dX11_see_74 ev_nwi (Nat.le_refl _) (Nat.le_refl _) ?_
          have hr : ntell 5 10 S (nI k) (nI c) = (nI (S 10 0 + 1), nadd S 10 k c) := by
            unfold ntell
            rw [cif_f (ni_m1 (show k < 2 ^ 31 by omega)), cif_t (nhas hV hk), cif_t hW, i_cl (show k < 2 ^ 31 by omega), i_cl (show c < 2 ^ 31 by omega), cif_t hlt]
          rw [hr]
          refine ⟨?_, hG.add (by decide), fun i h1 h2 h3 => by rw [sup_obj h3, sup_obj h1, sup_obj h2], fun k hk => by rw [sup_obj (show (127 : Nat) ≠ 143 by decide), sup_idx hk, sup_obj (show (127 : Nat) ≠ 142 by decide)], rfl⟩
          rw [sup_obj (show (127 : Nat) ≠ 143 by decide), sup_same]
        · skip
          have hfull : S 10 0 = 5 := (i_eq (by omega) (by decide)).mp h37
          refine e_bipush (v := (-4)) dX11_see_40 rfl ?_
          refine e_reti dX11_see_42 ev_nwi (Nat.le_refl _) (Nat.le_refl _) ?_
          have hr : ntell 5 10 S (nI k) (nI c) = (-4, S) := by
            unfold ntell
            rw [cif_f (ni_m1 (show k < 2 ^ 31 by omega)), cif_t (nhas hV hk), cif_t hW, cif_f (show ¬ S 10 0 < 5 by omega)]
          rw [hr]
          exact ⟨rfl, hG, fun _ _ _ _ => rfl, fun _ _ => rfl, rfl⟩
      · skip
        rw [q23] at h26
        have h26 := bI_eq0.mp h26
        refine e_bipush (v := (-2)) dX11_see_29 rfl ?_
        refine e_reti dX11_see_31 ev_nwi (Nat.le_refl _) (Nat.le_refl _) ?_
        have hr : ntell 5 10 S x v = (-2, S) := by
          unfold ntell
          rw [cif_f h2, cif_t hP, cif_f h26]
        rw [hr]
        exact ⟨rfl, hG, fun _ _ _ _ => rfl, fun _ _ => rfl, rfl⟩
    · skip
      rw [q14] at h17
      have h17 := bI_eq0.mp h17
      refine e_iconst (v := (-1)) dX11_see_20 rfl ?_
      refine e_reti dX11_see_21 ev_nwi (Nat.le_refl _) (Nat.le_refl _) ?_
      have hr : ntell 5 10 S x v = (-1, S) := by
        unfold ntell
        rw [cif_f h2, cif_f h17]
      rw [hr]
      exact ⟨rfl, hG, fun _ _ _ _ => rfl, fun _ _ => rfl, rfl⟩
  · skip
    subst h2
    refine e_aload_n dX11_see_5 rfl 0 rfl ?_
    refine e_iconst (v := 0) dX11_see_6 rfl ?_
    refine e_putI dX11_see_7 lkX11_245' tt_127 rfl rfl rfl ?_
    refine e_iconst (v := 0) dX11_see_10 rfl ?_
    refine e_reti dX11_see_11 ev_nwi (Nat.le_refl _) (Nat.le_refl _) ?_
    have hr : ntell 5 10 S (-1) v = (0, nclr S 10) := by
      unfold ntell
      rw [cif_t rfl]
    rw [hr]
    exact ⟨rfl, PH.clr, fun i hi _ _ => sup_obj hi, fun k hk => sup_idx hk, rfl⟩

set_option maxRecDepth 100000 in
theorem c10_tell_58 {S : ns_T} (hV : VS S) (hU : PSV S) {x v : Int32} {σ : ex_S} {μ : ex_L}(hC : NC σ 33 S) (hG : PG σ 58 S 16) : Ci 4 yX10_tellSymbol cX10_tellSymbol 4 (some .int) [.ref 0, .ref 58, .int x, .int v] TT σ μ (fun z' σ' μ' => z' = (ntell 8 16 S x v).1 ∧ PG σ' 58 (ntell 8 16 S x v).2 16 ∧ (∀ i, (i < 58 ∨ 60 < i) → σ' i = σ i) ∧ μ' = μ) := by
  refine Cl_of (by decide +kernel) (Nat.le_of_ble_eq_true rfl) ?_
  show Ev RX10 cX10_tellSymbol 4 4 0 0 "tellSymbol" (some .int) ev_ext _ _ 0 0 0 [(0, .ref 0), (1, .ref 58), (2, .int x), (3, .int v)] [] TT σ μ
  have hn := hV.1
  have h2n := two_n hV
  have hz2 := hU.2.2.1
  refine e_iload_n dX10_tellSymbol_0 rfl 2 rfl ?_
  refine e_iconst (v := (-1)) dX10_tellSymbol_1 rfl ?_
  refine e_icmp_ne (t := 12) dX10_tellSymbol_2 (by decide) (fun h2 => ?_) (fun h2 => ?_)
  · skip
    refine e_aload_n dX10_tellSymbol_12 rfl 0 rfl ?_
    refine e_getR dX10_tellSymbol_13 lkX10_46 tt_0 rfl ?_
    refine e_getR dX10_tellSymbol_16 lkX10_89 (store_0 store_32_) rfl ?_
    refine e_iload_n dX10_tellSymbol_19 rfl 2 rfl ?_
    refine e_callVi dX10_tellSymbol_20 cvX10_165 rfl (nodes_0 (store_n store_32_)) rfl (c3_hasN nodes_33_ hC x) (Nat.le_of_ble_eq_true rfl) (Nat.le_refl _) (Nat.le_refl _) rfl (Nat.le_of_ble_eq_true rfl) (fun r20 s20 m20 q20 => ?_)
    obtain ⟨q20, e20, g20⟩ := q20
    rw [e20, g20]
    clear e20 g20 s20 m20
    refine e_if_ne (t := 28) dX10_tellSymbol_23 (by decide) (fun h23 => ?_) (fun h23 => ?_)
    · skip
      rw [q20, bI_eq0] at h23
      have hP := Classical.not_not.mp h23
      refine e_iload_n dX10_tellSymbol_28 rfl 3 rfl ?_
      refine e_callSi dX10_tellSymbol_29 cvX10_121 rfl (c10_isNumber v) (Nat.le_of_ble_eq_true rfl) (Nat.le_refl _) (Nat.le_refl _) rfl (Nat.le_of_ble_eq_true rfl) (fun r29 s29 m29 q29 => ?_)
      obtain ⟨q29, e29, g29⟩ := q29
      rw [e29, g29]
      clear e29 g29 s29 m29
      refine e_if_ne (t := 38) dX10_tellSymbol_32 (by decide) (fun h32 => ?_) (fun h32 => ?_)
      · skip
        rw [q29, bI_eq0] at h32
        have hW := Classical.not_not.mp h32
        obtain ⟨k, hk, rfl⟩ := i_ofl (x := x) (m := S 0 0) (by omega) hP.1 (show _ < nI (S 0 0) from hP.2)
        obtain ⟨c, hc, rfl⟩ := i_of (x := v) (m := 15) (by omega) hW.1 (show _ ≤ nI (15) from hW.2)
        refine e_aload_n dX10_tellSymbol_38 rfl 1 rfl ?_
        refine e_iload_n dX10_tellSymbol_39 rfl 2 rfl ?_
        refine e_iload_n dX10_tellSymbol_40 rfl 3 rfl ?_
        refine e_callVi dX10_tellSymbol_41 cvX10_283 rfl (pairs_0 pairs_58_) rfl (c5_add_58 (z := S 16 0) (u := k) (v := c) hG.1 hz2) (Nat.le_of_ble_eq_true rfl) (Nat.le_refl _) (Nat.le_refl _) rfl (Nat.le_of_ble_eq_true rfl) (fun r41 s41 m41 q41 => ?_)
        obtain ⟨q41, a1, a2, a3⟩ := q41
        rw [a3]
        refine e_if_eq (t := 54) dX10_tellSymbol_44 (by decide) (fun h44 => ?_) (fun h44 => ?_)
        · skip
          rw [q41, bI_eq0] at h44
          refine e_bipush (v := (-4)) dX10_tellSymbol_54 rfl ?_
          refine e_reti dX10_tellSymbol_56 ev_nwi (Nat.le_refl _) (Nat.le_refl _) ?_
          have hr : ntell 8 16 S (nI k) (nI c) = (-4, S) := by
            unfold ntell
            rw [cif_f (ni_m1 (show k < 2 ^ 31 by omega)), cif_t (nhas hV hk), cif_t hW, cif_f h44]
          rw [hr, a2 h44]
          exact ⟨rfl, hG, fun _ _ => rfl, rfl⟩
        · skip
          rw [q41, bI_eq0] at h44
          have hlt := Classical.not_not.mp h44
          have a1 := a1 hlt
          subst a1
          refine e_aload_n dX10_tellSymbol_47 rfl 1 rfl ?_
          refine e_getI dX10_tellSymbol_48 lkX10_280 (pairs_0 pairs_58_) rfl ?_
          refine e_goto (t := 56) dX10_tellSymbol_51 (by decide) ?_
          refine e_reti dX10_tellSymbol_56 ev_nwi (Nat.le_refl _) (Nat.le_refl _) ?_
          have hr : ntell 8 16 S (nI k) (nI c) = (nI (S 16 0 + 1), nadd S 16 k c) := by
            unfold ntell
            rw [cif_f (ni_m1 (show k < 2 ^ 31 by omega)), cif_t (nhas hV hk), cif_t hW, i_cl (show k < 2 ^ 31 by omega), i_cl (show c < 2 ^ 31 by omega), cif_t hlt]
          rw [hr, sup_same]
          exact ⟨rfl, hG.add, fun i hi => by rw [sup_obj (by omega), sup_obj (by omega), sup_obj (by omega)], rfl⟩
      · skip
        rw [q29] at h32
        have h32 := bI_eq0.mp h32
        refine e_bipush (v := (-2)) dX10_tellSymbol_35 rfl ?_
        refine e_reti dX10_tellSymbol_37 ev_nwi (Nat.le_refl _) (Nat.le_refl _) ?_
        have hr : ntell 8 16 S x v = (-2, S) := by
          unfold ntell
          rw [cif_f h2, cif_t hP, cif_f h32]
        rw [hr]
        exact ⟨rfl, hG, fun _ _ => rfl, rfl⟩
    · skip
      rw [q20] at h23
      have h23 := bI_eq0.mp h23
      refine e_iconst (v := (-1)) dX10_tellSymbol_26 rfl ?_
      refine e_reti dX10_tellSymbol_27 ev_nwi (Nat.le_refl _) (Nat.le_refl _) ?_
      have hr : ntell 8 16 S x v = (-1, S) := by
        unfold ntell
        rw [cif_f h2, cif_f h23]
      rw [hr]
      exact ⟨rfl, hG, fun _ _ => rfl, rfl⟩
  · skip
    subst h2
    refine e_aload_n dX10_tellSymbol_5 rfl 1 rfl ?_
    refine e_iconst (v := 0) dX10_tellSymbol_6 rfl ?_
    refine e_putI dX10_tellSymbol_7 lkX10_280' (pairs_0 pairs_58_) rfl rfl rfl ?_
    refine e_iconst (v := 0) dX10_tellSymbol_10 rfl ?_
    refine e_reti dX10_tellSymbol_11 ev_nwi (Nat.le_refl _) (Nat.le_refl _) ?_
    have hr : ntell 8 16 S (-1) v = (0, nclr S 16) := by
      unfold ntell
      rw [cif_t rfl]
    rw [hr]
    exact ⟨rfl, PG.clr, fun i hi => sup_obj (by omega), rfl⟩

set_option maxRecDepth 100000 in
theorem c10_book {S : ns_T} (hV : VS S) (hU : PSV S) {x v : Int32} {σ : ex_S} {μ : ex_L}(hC : NC σ 33 S) (hG : PG σ 58 S 16) : Ci 5 yX10_book cX10_book 3 (some .int) [.ref 0, .int x, .int v] TT σ μ (fun z' σ' μ' => z' = (ntell 8 16 S x v).1 ∧ PG σ' 58 (ntell 8 16 S x v).2 16 ∧ (∀ i, (i < 58 ∨ 60 < i) → σ' i = σ i) ∧ μ' = μ) := by
  refine Cl_of (by decide +kernel) (Nat.le_of_ble_eq_true rfl) ?_
  show Ev RX10 cX10_book 3 5 0 0 "book" (some .int) ev_ext _ _ 0 0 0 [(0, .ref 0), (1, .int x), (2, .int v)] [] TT σ μ
  refine e_aload_n dX10_book_0 rfl 0 rfl ?_
  refine e_aload_n dX10_book_1 rfl 0 rfl ?_
  refine e_getR dX10_book_2 lkX10_46 tt_0 rfl ?_
  refine e_getR dX10_book_5 lkX10_344 (store_0 store_32_) rfl ?_
  refine e_iload_n dX10_book_8 rfl 1 rfl ?_
  refine e_iload_n dX10_book_9 rfl 2 rfl ?_
  refine e_callVi dX10_book_10 cvX10_276 rfl tt_0 rfl (c10_tell_58 hV hU hC hG (x := x) (v := v)) (Nat.le_of_ble_eq_true rfl) (Nat.le_refl _) (Nat.le_refl _) rfl (Nat.le_of_ble_eq_true rfl) (fun r10 s10 m10 q10 => ?_)
  obtain ⟨q10, a1, a2, a3⟩ := q10
  refine e_reti dX10_book_13 ev_nwi (Nat.le_refl _) (Nat.le_refl _) ?_
  exact ⟨q10, a1, a2, a3⟩

set_option maxRecDepth 100000 in
theorem c11_book {S : ns_T} (hV : VS S) (hU : PSV S) {x v : Int32} {σ : ex_S} {μ : ex_L}(hR : NR σ S) (hG : PH σ 28 146 S 16) : Ci 4 yX11_book cX11_book 3 (some .int) [.ref 127, .int x, .int v] TT σ μ (fun z' σ' μ' => z' = (ntell 8 16 S x v).1 ∧ PH σ' 28 146 (ntell 8 16 S x v).2 16 ∧ (∀ i, i ≠ 127 → i ≠ 146 → i ≠ 147 → σ' i = σ i) ∧ (∀ k, k ≠ 28 → σ' 127 k = σ 127 k) ∧ μ' = μ) := by
  refine Cl_of (by decide +kernel) (Nat.le_of_ble_eq_true rfl) ?_
  show Ev RX11 cX11_book 3 4 0 0 "book" (some .int) ev_ext _ _ 0 0 0 [(0, .ref 127), (1, .int x), (2, .int v)] [] TT σ μ
  have hn := hV.1
  have h2n := two_n hV
  have hz2 := hU.2.2.1
  refine e_iload_n dX11_book_0 rfl 1 rfl ?_
  refine e_iconst (v := (-1)) dX11_book_1 rfl ?_
  refine e_icmp_ne (t := 12) dX11_book_2 (by decide) (fun h2 => ?_) (fun h2 => ?_)
  · skip
    refine e_aload_n dX11_book_12 rfl 0 rfl ?_
    refine e_iload_n dX11_book_13 rfl 1 rfl ?_
    refine e_callVi dX11_book_14 cvX11_169 rfl tt_127 rfl (c11_isOneN hV hR x) (Nat.le_of_ble_eq_true rfl) (Nat.le_refl _) (Nat.le_refl _) rfl (Nat.le_of_ble_eq_true rfl) (fun r14 s14 m14 q14 => ?_)
    obtain ⟨q14, e14, g14⟩ := q14
    rw [e14, g14]
    clear e14 g14 s14 m14
    refine e_if_ne (t := 22) dX11_book_17 (by decide) (fun h17 => ?_) (fun h17 => ?_)
    · skip
      rw [q14, bI_eq0] at h17
      have hP := Classical.not_not.mp h17
      refine e_iload_n dX11_book_22 rfl 2 rfl ?_
      refine e_callSi dX11_book_23 cvX11_125 rfl (c11_isNumber v) (Nat.le_of_ble_eq_true rfl) (Nat.le_refl _) (Nat.le_refl _) rfl (Nat.le_of_ble_eq_true rfl) (fun r23 s23 m23 q23 => ?_)
      obtain ⟨q23, e23, g23⟩ := q23
      rw [e23, g23]
      clear e23 g23 s23 m23
      refine e_if_ne (t := 32) dX11_book_26 (by decide) (fun h26 => ?_) (fun h26 => ?_)
      · skip
        rw [q23, bI_eq0] at h26
        have hW := Classical.not_not.mp h26
        obtain ⟨k, hk, rfl⟩ := i_ofl (x := x) (m := S 0 0) (by omega) hP.1 (show _ < nI (S 0 0) from hP.2)
        obtain ⟨c, hc, rfl⟩ := i_of (x := v) (m := 15) (by omega) hW.1 (show _ ≤ nI (15) from hW.2)
        refine e_aload_n dX11_book_32 rfl 0 rfl ?_
        refine e_getI dX11_book_33 lkX11_286 tt_127 rfl ?_
        refine e_bipush (v := 8) dX11_book_36 rfl ?_
        rw [hG.1]
        refine e_icmp_ne (t := 44) dX11_book_38 (by decide) (fun h38 => ?_) (fun h38 => ?_)
        · skip
          have hlt : S 16 0 < 8 := by
            have : ¬ S 16 0 = 8 := fun q => h38 (by rw [q]; rfl)
            omega
          refine e_aload_n dX11_book_44 rfl 0 rfl ?_
          refine e_getR dX11_book_45 lkX11_66 tt_127 rfl ?_
          refine e_aload_n dX11_book_48 rfl 0 rfl ?_
          refine e_getI dX11_book_49 lkX11_286 tt_127 rfl ?_
          refine e_iload_n dX11_book_52 rfl 1 rfl ?_
          rw [hG.1]
          refine e_iast dX11_book_53 tt_146 (vp_in_nI hlt (by decide)) ?_
          rw [i_cl (by omega)]
          refine e_aload_n dX11_book_54 rfl 0 rfl ?_
          refine e_getR dX11_book_55 lkX11_69 tt_127 rfl ?_
          refine e_aload_n dX11_book_58 rfl 0 rfl ?_
          refine e_dup dX11_book_59 rfl ?_
          refine e_getI dX11_book_60 lkX11_286 tt_127 rfl ?_
          rw [sup_obj (show (127 : Nat) ≠ 146 by decide), hG.1]
          refine e_dup_x1 dX11_book_63 rfl rfl ?_
          refine e_iconst (v := 1) dX11_book_64 rfl ?_
          refine e_iadd dX11_book_65 ?_
          rw [show nI (S 16 0) + 1 = nI (S 16 0 + 1) from nI_1 _]
          refine e_putI dX11_book_66 lkX11_286' tt_127 rfl rfl rfl ?_
          refine e_iload_n dX11_book_69 rfl 2 rfl ?_
          refine e_iast dX11_book_70 tt_147 (vp_in_nI hlt (by decide)) ?_
          rw [i_cl (by omega)]
          refine e_aload_n dX11_book_71 rfl 0 rfl ?_
          refine e_getI dX11_book_72 lkX11_286 tt_127 rfl ?_
          refine e_reti dX11_book_75 ev_nwi (Nat.le_refl _) (Nat.le_refl _) ?_
          have hr : ntell 8 16 S (nI k) (nI c) = (nI (S 16 0 + 1), nadd S 16 k c) := by
            unfold ntell
            rw [cif_f (ni_m1 (show k < 2 ^ 31 by omega)), cif_t (nhas hV hk), cif_t hW, i_cl (show k < 2 ^ 31 by omega), i_cl (show c < 2 ^ 31 by omega), cif_t hlt]
          rw [hr]
          refine ⟨?_, hG.add (by decide), fun i h1 h2 h3 => by rw [sup_obj h3, sup_obj h1, sup_obj h2], fun k hk => by rw [sup_obj (show (127 : Nat) ≠ 147 by decide), sup_idx hk, sup_obj (show (127 : Nat) ≠ 146 by decide)], rfl⟩
          rw [sup_obj (show (127 : Nat) ≠ 147 by decide), sup_same]
        · skip
          have hfull : S 16 0 = 8 := (i_eq (by omega) (by decide)).mp h38
          refine e_bipush (v := (-4)) dX11_book_41 rfl ?_
          refine e_reti dX11_book_43 ev_nwi (Nat.le_refl _) (Nat.le_refl _) ?_
          have hr : ntell 8 16 S (nI k) (nI c) = (-4, S) := by
            unfold ntell
            rw [cif_f (ni_m1 (show k < 2 ^ 31 by omega)), cif_t (nhas hV hk), cif_t hW, cif_f (show ¬ S 16 0 < 8 by omega)]
          rw [hr]
          exact ⟨rfl, hG, fun _ _ _ _ => rfl, fun _ _ => rfl, rfl⟩
      · skip
        rw [q23] at h26
        have h26 := bI_eq0.mp h26
        refine e_bipush (v := (-2)) dX11_book_29 rfl ?_
        refine e_reti dX11_book_31 ev_nwi (Nat.le_refl _) (Nat.le_refl _) ?_
        have hr : ntell 8 16 S x v = (-2, S) := by
          unfold ntell
          rw [cif_f h2, cif_t hP, cif_f h26]
        rw [hr]
        exact ⟨rfl, hG, fun _ _ _ _ => rfl, fun _ _ => rfl, rfl⟩
    · skip
      rw [q14] at h17
      have h17 := bI_eq0.mp h17
      refine e_iconst (v := (-1)) dX11_book_20 rfl ?_
      refine e_reti dX11_book_21 ev_nwi (Nat.le_refl _) (Nat.le_refl _) ?_
      have hr : ntell 8 16 S x v = (-1, S) := by
        unfold ntell
        rw [cif_f h2, cif_f h17]
      rw [hr]
      exact ⟨rfl, hG, fun _ _ _ _ => rfl, fun _ _ => rfl, rfl⟩
  · skip
    subst h2
    refine e_aload_n dX11_book_5 rfl 0 rfl ?_
    refine e_iconst (v := 0) dX11_book_6 rfl ?_
    refine e_putI dX11_book_7 lkX11_286' tt_127 rfl rfl rfl ?_
    refine e_iconst (v := 0) dX11_book_10 rfl ?_
    refine e_reti dX11_book_11 ev_nwi (Nat.le_refl _) (Nat.le_refl _) ?_
    have hr : ntell 8 16 S (-1) v = (0, nclr S 16) := by
      unfold ntell
      rw [cif_t rfl]
    rw [hr]
    exact ⟨rfl, PH.clr, fun i hi _ _ => sup_obj hi, fun k hk => sup_idx hk, rfl⟩

set_option maxRecDepth 100000 in
theorem c10_plan {S : ns_T} (hV : VS S) (hU : PSV S) {w x : Int32} {σ : ex_S} {μ : ex_L}(hC : NC σ 33 S) (hG : PG σ 55 S 13) : Ci 4 yX10_plan cX10_plan 3 (some .int) [.ref 0, .int w, .int x] TT σ μ (fun z' σ' μ' => z' = (nplan S w x).1 ∧ PG σ' 55 (nplan S w x).2 13 ∧ (∀ i, (i < 55 ∨ 57 < i) → σ' i = σ i) ∧ μ' = μ) := by
  refine Cl_of (by decide +kernel) (Nat.le_of_ble_eq_true rfl) ?_
  show Ev RX10 cX10_plan 3 4 0 0 "plan" (some .int) ev_ext _ _ 0 0 0 [(0, .ref 0), (1, .int w), (2, .int x)] [] TT σ μ
  have hn := hV.1
  have h2n := two_n hV
  have hz2 := hU.2.1
  refine e_iload_n dX10_plan_0 rfl 1 rfl ?_
  refine e_iconst (v := (-1)) dX10_plan_1 rfl ?_
  refine e_icmp_ne (t := 18) dX10_plan_2 (by decide) (fun h2 => ?_) (fun h2 => ?_)
  · skip
    refine e_iload_n dX10_plan_18 rfl 1 rfl ?_
    refine e_if_lt (t := 41) dX10_plan_19 (by decide) (fun h19 => ?_) (fun h19 => ?_)
    · skip
      skip
      refine e_iconst (v := (-1)) dX10_plan_41 rfl ?_
      refine e_reti dX10_plan_42 ev_nwi (Nat.le_refl _) (Nat.le_refl _) ?_
      have hr : nplan S w x = (-1, S) := by
        unfold nplan
        rw [cif_f h2, cif_f (fun z => nlt_0 h19 z.1.1)]
      rw [hr]
      exact ⟨rfl, hG, fun _ _ => rfl, rfl⟩
    · skip
      refine e_iload_n dX10_plan_22 rfl 1 rfl ?_
      refine e_iconst (v := 2) dX10_plan_23 rfl ?_
      refine e_icmp_gt (t := 41) dX10_plan_24 (by decide) (fun h24 => ?_) (fun h24 => ?_)
      · skip
        skip
        refine e_iconst (v := (-1)) dX10_plan_41 rfl ?_
        refine e_reti dX10_plan_42 ev_nwi (Nat.le_refl _) (Nat.le_refl _) ?_
        have hr : nplan S w x = (-1, S) := by
          unfold nplan
          rw [cif_f h2, cif_f (fun z => by
            have a1 := Int32.lt_iff_toInt_lt.mp h24
            have a2 := Int32.le_iff_toInt_le.mp z.1.2
            omega)]
        rw [hr]
        exact ⟨rfl, hG, fun _ _ => rfl, rfl⟩
      · skip
        have hW : 0 ≤ w ∧ w ≤ 2 := ⟨fa_of_nlt h19, fa_of_nlt h24⟩
        refine e_aload_n dX10_plan_27 rfl 0 rfl ?_
        refine e_getR dX10_plan_28 lkX10_46 tt_0 rfl ?_
        refine e_getR dX10_plan_31 lkX10_89 (store_0 store_32_) rfl ?_
        refine e_iload_n dX10_plan_34 rfl 2 rfl ?_
        refine e_callVi dX10_plan_35 cvX10_165 rfl (nodes_0 (store_n store_32_)) rfl (c3_hasN nodes_33_ hC x) (Nat.le_of_ble_eq_true rfl) (Nat.le_refl _) (Nat.le_refl _) rfl (Nat.le_of_ble_eq_true rfl) (fun r35 s35 m35 q35 => ?_)
        obtain ⟨q35, e35, g35⟩ := q35
        rw [e35, g35]
        clear e35 g35 s35 m35
        refine e_if_ne (t := 43) dX10_plan_38 (by decide) (fun h38 => ?_) (fun h38 => ?_)
        · skip
          rw [q35, bI_eq0] at h38
          have hP := Classical.not_not.mp h38
          obtain ⟨k, hk, rfl⟩ := i_ofl (x := x) (m := S 0 0) (by omega) hP.1 (show _ < nI (S 0 0) from hP.2)
          obtain ⟨c, hc, rfl⟩ := i_of (x := w) (m := 2) (by omega) hW.1 (show _ ≤ nI (2) from hW.2)
          refine e_aload_n dX10_plan_43 rfl 0 rfl ?_
          refine e_getR dX10_plan_44 lkX10_46 tt_0 rfl ?_
          refine e_getR dX10_plan_47 lkX10_329 (store_0 store_32_) rfl ?_
          refine e_iload_n dX10_plan_50 rfl 1 rfl ?_
          refine e_iload_n dX10_plan_51 rfl 2 rfl ?_
          refine e_callVi dX10_plan_52 cvX10_283 rfl (pairs_0 (store_p2 store_32_)) rfl (c5_add_55 (z := S 13 0) (u := c) (v := k) hG.1 hz2) (Nat.le_of_ble_eq_true rfl) (Nat.le_refl _) (Nat.le_refl _) rfl (Nat.le_of_ble_eq_true rfl) (fun r52 s52 m52 q52 => ?_)
          obtain ⟨q52, a1, a2, a3⟩ := q52
          rw [a3]
          refine e_if_eq (t := 71) dX10_plan_55 (by decide) (fun h55 => ?_) (fun h55 => ?_)
          · skip
            rw [q52, bI_eq0] at h55
            refine e_bipush (v := (-4)) dX10_plan_71 rfl ?_
            refine e_reti dX10_plan_73 ev_nwi (Nat.le_refl _) (Nat.le_refl _) ?_
            have hr : nplan S (nI c) (nI k) = (-4, S) := by
              unfold nplan
              rw [cif_f (ni_m1 (show c < 2 ^ 31 by omega)), cif_t ⟨hW, nhas hV hk⟩, cif_f h55]
            rw [hr, a2 h55]
            exact ⟨rfl, hG, fun _ _ => rfl, rfl⟩
          · skip
            rw [q52, bI_eq0] at h55
            have hlt := Classical.not_not.mp h55
            have a1 := a1 hlt
            subst a1
            refine e_aload_n dX10_plan_58 rfl 0 rfl ?_
            refine e_getR dX10_plan_59 lkX10_46 tt_0 rfl ?_
            refine e_getR dX10_plan_62 lkX10_329 (store_0 store_32_) rfl ?_
            refine e_getI dX10_plan_65 lkX10_280 (pairs_0 (store_p2 store_32_)) rfl ?_
            refine e_goto (t := 73) dX10_plan_68 (by decide) ?_
            refine e_reti dX10_plan_73 ev_nwi (Nat.le_refl _) (Nat.le_refl _) ?_
            have hr : nplan S (nI c) (nI k) = (nI (S 13 0 + 1), nadd S 13 c k) := by
              unfold nplan
              rw [cif_f (ni_m1 (show c < 2 ^ 31 by omega)), cif_t ⟨hW, nhas hV hk⟩, i_cl (show c < 2 ^ 31 by omega), i_cl (show k < 2 ^ 31 by omega), cif_t hlt]
            rw [hr, sup_same]
            exact ⟨rfl, hG.add, fun i hi => by rw [sup_obj (by omega), sup_obj (by omega), sup_obj (by omega)], rfl⟩
        · skip
          rw [q35] at h38
          have h38 := bI_eq0.mp h38
          refine e_iconst (v := (-1)) dX10_plan_41 rfl ?_
          refine e_reti dX10_plan_42 ev_nwi (Nat.le_refl _) (Nat.le_refl _) ?_
          have hr : nplan S w x = (-1, S) := by
            unfold nplan
            rw [cif_f h2, cif_f (fun z => h38 z.2)]
          rw [hr]
          exact ⟨rfl, hG, fun _ _ => rfl, rfl⟩
  · skip
    subst h2
    refine e_aload_n dX10_plan_5 rfl 0 rfl ?_
    refine e_getR dX10_plan_6 lkX10_46 tt_0 rfl ?_
    refine e_getR dX10_plan_9 lkX10_329 (store_0 store_32_) rfl ?_
    refine e_iconst (v := 0) dX10_plan_12 rfl ?_
    refine e_putI dX10_plan_13 lkX10_280' (pairs_0 (store_p2 store_32_)) rfl rfl rfl ?_
    refine e_iconst (v := 0) dX10_plan_16 rfl ?_
    refine e_reti dX10_plan_17 ev_nwi (Nat.le_refl _) (Nat.le_refl _) ?_
    have hr : nplan S (-1) x = (0, nclr S 13) := by
      unfold nplan
      rw [cif_t rfl]
    rw [hr]
    exact ⟨rfl, PG.clr, fun i hi => sup_obj (by omega), rfl⟩

set_option maxRecDepth 100000 in
theorem c11_plan {S : ns_T} (hV : VS S) (hU : PSV S) {w x : Int32} {σ : ex_S} {μ : ex_L}(hR : NR σ S) (hG : PH σ 25 144 S 13) : Ci 4 yX11_plan cX11_plan 3 (some .int) [.ref 127, .int w, .int x] TT σ μ (fun z' σ' μ' => z' = (nplan S w x).1 ∧ PH σ' 25 144 (nplan S w x).2 13 ∧ (∀ i, i ≠ 127 → i ≠ 144 → i ≠ 145 → σ' i = σ i) ∧ (∀ k, k ≠ 25 → σ' 127 k = σ 127 k) ∧ μ' = μ) := by
  refine Cl_of (by decide +kernel) (Nat.le_of_ble_eq_true rfl) ?_
  show Ev RX11 cX11_plan 3 4 0 0 "plan" (some .int) ev_ext _ _ 0 0 0 [(0, .ref 127), (1, .int w), (2, .int x)] [] TT σ μ
  have hn := hV.1
  have h2n := two_n hV
  have hz2 := hU.2.1
  refine e_iload_n dX11_plan_0 rfl 1 rfl ?_
  refine e_iconst (v := (-1)) dX11_plan_1 rfl ?_
  refine e_icmp_ne (t := 12) dX11_plan_2 (by decide) (fun h2 => ?_) (fun h2 => ?_)
  · skip
    refine e_iload_n dX11_plan_12 rfl 1 rfl ?_
    refine e_iconst (v := 0) dX11_plan_13 rfl ?_
    refine e_iconst (v := 2) dX11_plan_14 rfl ?_
    refine e_callSi dX11_plan_15 cvX11_99 rfl (c11_within w 0 2) (Nat.le_of_ble_eq_true rfl) (Nat.le_refl _) (Nat.le_refl _) rfl (Nat.le_of_ble_eq_true rfl) (fun r15 s15 m15 q15 => ?_)
    obtain ⟨q15, e15, g15⟩ := q15
    rw [e15, g15]
    clear e15 g15 s15 m15
    refine e_if_eq (t := 29) dX11_plan_18 (by decide) (fun h18 => ?_) (fun h18 => ?_)
    · skip
      rw [q15, bI_eq0] at h18
      refine e_iconst (v := (-1)) dX11_plan_29 rfl ?_
      refine e_reti dX11_plan_30 ev_nwi (Nat.le_refl _) (Nat.le_refl _) ?_
      have hr : nplan S w x = (-1, S) := by
        unfold nplan
        rw [cif_f h2, cif_f (fun z => h18 z.1)]
      rw [hr]
      exact ⟨rfl, hG, fun _ _ _ _ => rfl, fun _ _ => rfl, rfl⟩
    · skip
      rw [q15, bI_eq0] at h18
      have hW := Classical.not_not.mp h18
      refine e_aload_n dX11_plan_21 rfl 0 rfl ?_
      refine e_iload_n dX11_plan_22 rfl 2 rfl ?_
      refine e_callVi dX11_plan_23 cvX11_169 rfl tt_127 rfl (c11_isOneN hV hR x) (Nat.le_of_ble_eq_true rfl) (Nat.le_refl _) (Nat.le_refl _) rfl (Nat.le_of_ble_eq_true rfl) (fun r23 s23 m23 q23 => ?_)
      obtain ⟨q23, e23, g23⟩ := q23
      rw [e23, g23]
      clear e23 g23 s23 m23
      refine e_if_ne (t := 31) dX11_plan_26 (by decide) (fun h26 => ?_) (fun h26 => ?_)
      · skip
        rw [q23, bI_eq0] at h26
        have hP := Classical.not_not.mp h26
        obtain ⟨k, hk, rfl⟩ := i_ofl (x := x) (m := S 0 0) (by omega) hP.1 (show _ < nI (S 0 0) from hP.2)
        obtain ⟨c, hc, rfl⟩ := i_of (x := w) (m := 2) (by omega) hW.1 (show _ ≤ nI (2) from hW.2)
        refine e_aload_n dX11_plan_31 rfl 0 rfl ?_
        refine e_getI dX11_plan_32 lkX11_276 tt_127 rfl ?_
        refine e_bipush (v := 10) dX11_plan_35 rfl ?_
        rw [hG.1]
        refine e_icmp_ne (t := 43) dX11_plan_37 (by decide) (fun h37 => ?_) (fun h37 => ?_)
        · skip
          have hlt : S 13 0 < 10 := by
            have : ¬ S 13 0 = 10 := fun q => h37 (by rw [q]; rfl)
            omega
          refine e_aload_n dX11_plan_43 rfl 0 rfl ?_
          refine e_getR dX11_plan_44 lkX11_60 tt_127 rfl ?_
          refine e_aload_n dX11_plan_47 rfl 0 rfl ?_
          refine e_getI dX11_plan_48 lkX11_276 tt_127 rfl ?_
          refine e_iload_n dX11_plan_51 rfl 1 rfl ?_
          rw [hG.1]
          refine e_iast dX11_plan_52 tt_144 (vp_in_nI hlt (by decide)) ?_
          rw [i_cl (by omega)]
          refine e_aload_n dX11_plan_53 rfl 0 rfl ?_
          refine e_getR dX11_plan_54 lkX11_63 tt_127 rfl ?_
          refine e_aload_n dX11_plan_57 rfl 0 rfl ?_
          refine e_dup dX11_plan_58 rfl ?_
          refine e_getI dX11_plan_59 lkX11_276 tt_127 rfl ?_
          rw [sup_obj (show (127 : Nat) ≠ 144 by decide), hG.1]
          refine e_dup_x1 dX11_plan_62 rfl rfl ?_
          refine e_iconst (v := 1) dX11_plan_63 rfl ?_
          refine e_iadd dX11_plan_64 ?_
          rw [show nI (S 13 0) + 1 = nI (S 13 0 + 1) from nI_1 _]
          refine e_putI dX11_plan_65 lkX11_276' tt_127 rfl rfl rfl ?_
          refine e_iload_n dX11_plan_68 rfl 2 rfl ?_
          refine e_iast dX11_plan_69 tt_145 (vp_in_nI hlt (by decide)) ?_
          rw [i_cl (by omega)]
          refine e_aload_n dX11_plan_70 rfl 0 rfl ?_
          refine e_getI dX11_plan_71 lkX11_276 tt_127 rfl ?_
          refine e_reti dX11_plan_74 ev_nwi (Nat.le_refl _) (Nat.le_refl _) ?_
          have hr : nplan S (nI c) (nI k) = (nI (S 13 0 + 1), nadd S 13 c k) := by
            unfold nplan
            rw [cif_f (ni_m1 (show c < 2 ^ 31 by omega)), cif_t ⟨hW, nhas hV hk⟩, i_cl (show c < 2 ^ 31 by omega), i_cl (show k < 2 ^ 31 by omega), cif_t hlt]
          rw [hr]
          refine ⟨?_, hG.add (by decide), fun i h1 h2 h3 => by rw [sup_obj h3, sup_obj h1, sup_obj h2], fun k hk => by rw [sup_obj (show (127 : Nat) ≠ 145 by decide), sup_idx hk, sup_obj (show (127 : Nat) ≠ 144 by decide)], rfl⟩
          rw [sup_obj (show (127 : Nat) ≠ 145 by decide), sup_same]
        · skip
          have hfull : S 13 0 = 10 := (i_eq (by omega) (by decide)).mp h37
          refine e_bipush (v := (-4)) dX11_plan_40 rfl ?_
          refine e_reti dX11_plan_42 ev_nwi (Nat.le_refl _) (Nat.le_refl _) ?_
          have hr : nplan S (nI c) (nI k) = (-4, S) := by
            unfold nplan
            rw [cif_f (ni_m1 (show c < 2 ^ 31 by omega)), cif_t ⟨hW, nhas hV hk⟩, cif_f (show ¬ S 13 0 < 10 by omega)]
          rw [hr]
          exact ⟨rfl, hG, fun _ _ _ _ => rfl, fun _ _ => rfl, rfl⟩
      · skip
        rw [q23] at h26
        have h26 := bI_eq0.mp h26
        refine e_iconst (v := (-1)) dX11_plan_29 rfl ?_
        refine e_reti dX11_plan_30 ev_nwi (Nat.le_refl _) (Nat.le_refl _) ?_
        have hr : nplan S w x = (-1, S) := by
          unfold nplan
          rw [cif_f h2, cif_f (fun z => h26 z.2)]
        rw [hr]
        exact ⟨rfl, hG, fun _ _ _ _ => rfl, fun _ _ => rfl, rfl⟩
  · skip
    subst h2
    refine e_aload_n dX11_plan_5 rfl 0 rfl ?_
    refine e_iconst (v := 0) dX11_plan_6 rfl ?_
    refine e_putI dX11_plan_7 lkX11_276' tt_127 rfl rfl rfl ?_
    refine e_iconst (v := 0) dX11_plan_10 rfl ?_
    refine e_reti dX11_plan_11 ev_nwi (Nat.le_refl _) (Nat.le_refl _) ?_
    have hr : nplan S (-1) x = (0, nclr S 13) := by
      unfold nplan
      rw [cif_t rfl]
    rw [hr]
    exact ⟨rfl, PH.clr, fun i hi _ _ => sup_obj hi, fun k hk => sup_idx hk, rfl⟩
