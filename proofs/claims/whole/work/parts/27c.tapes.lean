theorem TPC.ts {σ : ex_S} {μ : ex_L} {t : tp_T} (h : TPC σ μ t) {k i : Nat} {v : Int64} : TPC σ (lup μ (121 + k) i v) (nts t k i v) := fun j hj => by
  obtain ⟨g1, g2, g3⟩ := h j hj
  refine ⟨g1, g2, fun q hq => ?_⟩
  show _ = (if j = k ∧ q = i then v else t.2.2 j q)
  by_cases e : j = k ∧ q = i
  · rw [if_pos e, e.1, e.2, lup_same]
  · rw [if_neg e, ← g3 q hq]
    by_cases e1 : j = k
    · rw [e1, lup_idx (fun z => e ⟨e1, z⟩)]
    · rw [lup_obj (by omega)]
theorem TPR.ts {σ : ex_S} {μ : ex_L} {t : tp_T} (h : TPR σ μ t) {k i : Nat} (hi : i < 60) {v : Int64} : TPR σ (lup μ 153 (60 * k + i) v) (nts t k i v) := fun j hj => by
  obtain ⟨g1, g2, g3⟩ := h j hj
  refine ⟨g1, g2, fun q hq => ?_⟩
  show _ = (if j = k ∧ q = i then v else t.2.2 j q)
  by_cases e : j = k ∧ q = i
  · rw [if_pos e, e.1, e.2, lup_same]
  · rw [if_neg e, ← g3 q hq, lup_idx (by omega)]
theorem nI_60 (a b : Nat) : (60 : Int32) * nI a + nI b = nI (60 * a + b) := by
  rw [show (60 : Int32) = nI 60 from rfl, i_mul, i_add]

set_option maxRecDepth 100000 in
theorem c10_item {t : tp_T} (hV : TPV t) {x i : Int32} {v : Int64} {σ : ex_S} {μ : ex_L}(hC : TPC σ μ t) : Ci 4 yX10_item cX10_item 5 (some .int) [.ref 0, .int x, .int i, .long v] TT σ μ (fun z' σ' μ' => z' = (nitem t x i v).1 ∧ TPC σ' μ' (nitem t x i v).2 ∧ (∀ i, i ≠ 118 → i ≠ 119 → σ' i = σ i) ∧ (∀ i, (i < 121 ∨ 126 < i) → μ' i = μ i)) := by
  refine Cl_of (by decide +kernel) (Nat.le_of_ble_eq_true rfl) ?_
  show Ev RX10 cX10_item 5 4 0 0 "item" (some .int) ev_ext _ _ 0 0 0 [(0, .ref 0), (1, .int x), (2, .int i), (3, .long v)] [] TT σ μ
  refine e_iload_n dX10_item_0 rfl 1 rfl ?_
  refine e_callSi dX10_item_1 cvX10_350 rfl (c9_has (x := x)) (Nat.le_of_ble_eq_true rfl) (Nat.le_refl _) (Nat.le_refl _) rfl (Nat.le_of_ble_eq_true rfl) (fun r1 s1 m1 q1 => ?_)
  obtain ⟨q1, e1, g1⟩ := q1
  rw [e1, g1]
  clear e1 g1 s1 m1
  refine e_if_ne (t := 9) dX10_item_4 (by decide) (fun h4 => ?_) (fun h4 => ?_)
  · skip
    rw [q1, bI_eq0] at h4
    have hP := Classical.not_not.mp h4
    obtain ⟨k, hk, rfl⟩ := i_of (x := x) (m := 5) (by omega) hP.1 (show _ ≤ nI (5) from hP.2)
    have h05k := h05 hk
    obtain ⟨g1, g2, g3⟩ := hC k (by omega)
    obtain ⟨w1, w2⟩ := hV k (by omega)
    refine e_aload_n dX10_item_9 rfl 0 rfl ?_
    refine e_getR dX10_item_10 lkX10_81 tt_0 rfl ?_
    refine e_getR dX10_item_13 lkX10_351 tt_117 rfl ?_
    refine e_iload_n dX10_item_16 rfl 1 rfl ?_
    refine e_iald dX10_item_17 tt_118 (vp_in_nI (by omega) (by decide)) ?_
    refine e_iconst (v := (-1)) dX10_item_18 rfl ?_
    refine e_icmp_ne (t := 25) dX10_item_19 (by decide) (fun h19 => ?_) (fun h19 => ?_)
    · skip
      have hs : ¬ t.1 k = -1 := by rw [← g1]; rw [i_cl (show k < 2 ^ 31 by omega)] at h19; exact h19
      have hs4 : ∃ u, u ≤ 4 ∧ t.1 k = nI u := by
        rcases w2 with ⟨q, _⟩ | q
        · exact absurd q hs
        · exact q
      refine e_aload_n dX10_item_25 rfl 0 rfl ?_
      refine e_getR dX10_item_26 lkX10_81 tt_0 rfl ?_
      refine e_iload_n dX10_item_29 rfl 1 rfl ?_
      refine e_iload_n dX10_item_30 rfl 2 rfl ?_
      refine e_callVi dX10_item_31 cvX10_371 rfl tt_117 rfl (c9_hasItem hV (x := nI k) (i := i) hC) (Nat.le_of_ble_eq_true rfl) (Nat.le_refl _) (Nat.le_refl _) rfl (Nat.le_of_ble_eq_true rfl) (fun r31 s31 m31 q31 => ?_)
      obtain ⟨q31, e31, g31⟩ := q31
      rw [e31, g31]
      clear e31 g31 s31 m31
      refine e_if_ne (t := 40) dX10_item_34 (by decide) (fun h34 => ?_) (fun h34 => ?_)
      · skip
        rw [q31, i_cl (show k < 2 ^ 31 by omega), bI_eq0] at h34
        have hit := (Classical.not_not.mp h34).2
        obtain ⟨c, hc, rfl⟩ := i_ofl (x := i) (m := t.2.1 k) (by omega) hit.1 (show _ < nI (t.2.1 k) from hit.2)
        refine e_aload_n dX10_item_40 rfl 0 rfl ?_
        refine e_getR dX10_item_41 lkX10_81 tt_0 rfl ?_
        refine e_getR dX10_item_44 lkX10_357 tt_117 rfl ?_
        refine e_iload_n dX10_item_47 rfl 1 rfl ?_
        refine e_aald dX10_item_48 tt_120 (Or.inr (Or.inl rfl)) (vp_in_nI (by omega) (by decide)) (by rw [i_cl (by omega)]; exact tape_at (by omega)) ?_
        refine e_iload_n dX10_item_49 rfl 2 rfl ?_
        refine e_aload_n dX10_item_50 rfl 0 rfl ?_
        refine e_getR dX10_item_51 lkX10_81 tt_0 rfl ?_
        refine e_getR dX10_item_54 lkX10_351 tt_117 rfl ?_
        refine e_iload_n dX10_item_57 rfl 1 rfl ?_
        refine e_iald dX10_item_58 tt_118 (vp_in_nI (by omega) (by decide)) ?_
        refine e_lload_n dX10_item_59 rfl 3 rfl ?_
        rw [i_cl (show k < 2 ^ 31 by omega), g1]
        refine e_callSl dX10_item_60 cvX10_374 rfl (c9_cut (s := t.1 k) (v := v) hs4) (Nat.le_of_ble_eq_true rfl) (Nat.le_refl _) (Nat.le_refl _) rfl (Nat.le_of_ble_eq_true rfl) (fun r60 s60 m60 q60 => ?_)
        obtain ⟨q60, e60, g60⟩ := q60
        rw [e60, g60]
        clear e60 g60 s60 m60
        refine e_last dX10_item_63 (tape_row (show k < 6 by omega)) (vp_in_nI (by omega) (by decide)) ?_
        rw [i_cl (show c < 2 ^ 31 by omega), q60]
        refine e_iconst (v := 1) dX10_item_64 rfl ?_
        refine e_reti dX10_item_65 ev_nwi (Nat.le_refl _) (Nat.le_refl _) ?_
        have hr : nitem t (nI k) (nI c) v = (1, nts t k c (ncut (t.1 k) v)) := by
          unfold nitem
          rw [cif_t h05k, i_cl (show k < 2 ^ 31 by omega), cif_f hs, cif_t hit, i_cl (show c < 2 ^ 31 by omega)]
        rw [hr]
        exact ⟨rfl, hC.ts, fun _ _ _ => rfl, fun i hi => lup_obj (by omega)⟩
      · skip
        rw [q31, i_cl (show k < 2 ^ 31 by omega)] at h34
        have hit : ¬ (0 ≤ i ∧ i < nI (t.2.1 k)) := fun q => bI_eq0.mp h34 ⟨h05k, q⟩
        refine e_bipush (v := (-13)) dX10_item_37 rfl ?_
        refine e_reti dX10_item_39 ev_nwi (Nat.le_refl _) (Nat.le_refl _) ?_
        have hr : nitem t (nI k) i v = (-13, t) := by
          unfold nitem
          rw [cif_t h05k, i_cl (show k < 2 ^ 31 by omega), cif_f hs, cif_f hit]
        rw [hr]
        exact ⟨rfl, hC, fun _ _ _ => rfl, fun _ _ => rfl⟩
    · skip
      have hs : t.1 k = -1 := by rw [← g1]; rw [i_cl (show k < 2 ^ 31 by omega)] at h19; exact h19
      refine e_bipush (v := (-11)) dX10_item_22 rfl ?_
      refine e_reti dX10_item_24 ev_nwi (Nat.le_refl _) (Nat.le_refl _) ?_
      have hr : nitem t (nI k) i v = (-11, t) := by
        unfold nitem
        rw [cif_t h05k, i_cl (show k < 2 ^ 31 by omega), cif_t hs]
      rw [hr]
      exact ⟨rfl, hC, fun _ _ _ => rfl, fun _ _ => rfl⟩
  · skip
    rw [q1] at h4
    have h4 := bI_eq0.mp h4
    refine e_iconst (v := (-1)) dX10_item_7 rfl ?_
    refine e_reti dX10_item_8 ev_nwi (Nat.le_refl _) (Nat.le_refl _) ?_
    have hr : nitem t x i v = (-1, t) := by
      unfold nitem
      rw [cif_f h4]
    rw [hr]
    exact ⟨rfl, hC, fun _ _ _ => rfl, fun _ _ => rfl⟩

set_option maxRecDepth 100000 in
theorem c11_item {t : tp_T} (hV : TPV t) {x i : Int32} {v : Int64} {σ : ex_S} {μ : ex_L}(hC : TPR σ μ t) : Ci 4 yX11_item cX11_item 5 (some .int) [.ref 127, .int x, .int i, .long v] TT σ μ (fun z' σ' μ' => z' = (nitem t x i v).1 ∧ TPR σ' μ' (nitem t x i v).2 ∧ σ' = σ ∧ (∀ i, i ≠ 153 → μ' i = μ i)) := by
  refine Cl_of (by decide +kernel) (Nat.le_of_ble_eq_true rfl) ?_
  show Ev RX11 cX11_item 5 4 0 0 "item" (some .int) ev_ext _ _ 0 0 0 [(0, .ref 127), (1, .int x), (2, .int i), (3, .long v)] [] TT σ μ
  refine e_iload_n dX11_item_0 rfl 1 rfl ?_
  refine e_callSi dX11_item_1 cvX11_296 rfl (c11_isTape x) (Nat.le_of_ble_eq_true rfl) (Nat.le_refl _) (Nat.le_refl _) rfl (Nat.le_of_ble_eq_true rfl) (fun r1 s1 m1 q1 => ?_)
  obtain ⟨q1, e1, g1⟩ := q1
  rw [e1, g1]
  clear e1 g1 s1 m1
  refine e_if_ne (t := 9) dX11_item_4 (by decide) (fun h4 => ?_) (fun h4 => ?_)
  · skip
    rw [q1, bI_eq0] at h4
    have hP := Classical.not_not.mp h4
    obtain ⟨k, hk, rfl⟩ := i_of (x := x) (m := 5) (by omega) hP.1 (show _ ≤ nI (5) from hP.2)
    have h05k := h05 hk
    obtain ⟨g1, g2, g3⟩ := hC k (by omega)
    obtain ⟨w1, w2⟩ := hV k (by omega)
    refine e_aload_n dX11_item_9 rfl 0 rfl ?_
    refine e_getR dX11_item_10 lkX11_81 tt_127 rfl ?_
    refine e_iload_n dX11_item_13 rfl 1 rfl ?_
    refine e_iald dX11_item_14 tt_151 (vp_in_nI (by omega) (by decide)) ?_
    refine e_if_ge (t := 21) dX11_item_15 (by decide) (fun h15 => ?_) (fun h15 => ?_)
    · skip
      rw [i_cl (show k < 2 ^ 31 by omega), g1] at h15
      have hs : ¬ t.1 k = -1 := m1_n h15
      refine e_iload_n dX11_item_21 rfl 2 rfl ?_
      refine e_iconst (v := 0) dX11_item_22 rfl ?_
      refine e_aload_n dX11_item_23 rfl 0 rfl ?_
      refine e_getR dX11_item_24 lkX11_84 tt_127 rfl ?_
      refine e_iload_n dX11_item_27 rfl 1 rfl ?_
      refine e_iald dX11_item_28 tt_152 (vp_in_nI (by omega) (by decide)) ?_
      refine e_iconst (v := 1) dX11_item_29 rfl ?_
      refine e_isub dX11_item_30 ?_
      rw [i_cl (show k < 2 ^ 31 by omega), g2]
      refine e_callSi dX11_item_31 cvX11_99 rfl (c11_within i 0 (nI (t.2.1 k) - 1)) (Nat.le_of_ble_eq_true rfl) (Nat.le_refl _) (Nat.le_refl _) rfl (Nat.le_of_ble_eq_true rfl) (fun r31 s31 m31 q31 => ?_)
      obtain ⟨q31, e31, g31⟩ := q31
      rw [e31, g31]
      clear e31 g31 s31 m31
      refine e_if_ne (t := 40) dX11_item_34 (by decide) (fun h34 => ?_) (fun h34 => ?_)
      · skip
        rw [q31, bI_eq0] at h34
        have hit := Classical.not_not.mp h34
        have hit : 0 ≤ i ∧ i < nI (t.2.1 k) := ⟨hit.1, (le_pred (by omega)).mp hit.2⟩
        obtain ⟨c, hc, rfl⟩ := i_ofl (x := i) (m := t.2.1 k) (by omega) hit.1 (show _ < nI (t.2.1 k) from hit.2)
        refine e_aload_n dX11_item_40 rfl 0 rfl ?_
        refine e_getR dX11_item_41 lkX11_87 tt_127 rfl ?_
        refine e_bipush (v := 60) dX11_item_44 rfl ?_
        refine e_iload_n dX11_item_46 rfl 1 rfl ?_
        refine e_imul dX11_item_47 ?_
        refine e_iload_n dX11_item_48 rfl 2 rfl ?_
        refine e_iadd dX11_item_49 ?_
        rw [nI_60]
        refine e_aload_n dX11_item_50 rfl 0 rfl ?_
        refine e_getR dX11_item_51 lkX11_81 tt_127 rfl ?_
        refine e_iload_n dX11_item_54 rfl 1 rfl ?_
        refine e_iald dX11_item_55 tt_151 (vp_in_nI (by omega) (by decide)) ?_
        refine e_lload_n dX11_item_56 rfl 3 rfl ?_
        rw [i_cl (show k < 2 ^ 31 by omega), g1]
        refine e_callSl dX11_item_57 cvX11_299 rfl (c11_kept (s := t.1 k) (v := v)) (Nat.le_of_ble_eq_true rfl) (Nat.le_refl _) (Nat.le_refl _) rfl (Nat.le_of_ble_eq_true rfl) (fun r57 s57 m57 q57 => ?_)
        obtain ⟨q57, e57, g57⟩ := q57
        rw [e57, g57]
        clear e57 g57 s57 m57
        refine e_last dX11_item_60 tt_153 (vp_in_nI (by omega) (by decide)) ?_
        rw [i_cl (show 60 * k + c < 2 ^ 31 by omega), q57]
        refine e_iconst (v := 1) dX11_item_61 rfl ?_
        refine e_reti dX11_item_62 ev_nwi (Nat.le_refl _) (Nat.le_refl _) ?_
        have hr : nitem t (nI k) (nI c) v = (1, nts t k c (ncut (t.1 k) v)) := by
          unfold nitem
          rw [cif_t h05k, i_cl (show k < 2 ^ 31 by omega), cif_f hs, cif_t hit, i_cl (show c < 2 ^ 31 by omega)]
        rw [hr]
        exact ⟨rfl, hC.ts (by omega), rfl, fun i hi => lup_obj hi⟩
      · skip
        rw [q31] at h34
        have hit : ¬ (0 ≤ i ∧ i < nI (t.2.1 k)) := fun q => bI_eq0.mp h34 ⟨q.1, (le_pred (by omega)).mpr q.2⟩
        refine e_bipush (v := (-13)) dX11_item_37 rfl ?_
        refine e_reti dX11_item_39 ev_nwi (Nat.le_refl _) (Nat.le_refl _) ?_
        have hr : nitem t (nI k) i v = (-13, t) := by
          unfold nitem
          rw [cif_t h05k, i_cl (show k < 2 ^ 31 by omega), cif_f hs, cif_f hit]
        rw [hr]
        exact ⟨rfl, hC, rfl, fun _ _ => rfl⟩
    · skip
      rw [i_cl (show k < 2 ^ 31 by omega), g1] at h15
      have hs : t.1 k = -1 := (t_m1 hV (by omega)).mpr (Int32.not_le.mp h15)
      refine e_bipush (v := (-11)) dX11_item_18 rfl ?_
      refine e_reti dX11_item_20 ev_nwi (Nat.le_refl _) (Nat.le_refl _) ?_
      have hr : nitem t (nI k) i v = (-11, t) := by
        unfold nitem
        rw [cif_t h05k, i_cl (show k < 2 ^ 31 by omega), cif_t hs]
      rw [hr]
      exact ⟨rfl, hC, rfl, fun _ _ => rfl⟩
  · skip
    rw [q1] at h4
    have h4 := bI_eq0.mp h4
    refine e_iconst (v := (-1)) dX11_item_7 rfl ?_
    refine e_reti dX11_item_8 ev_nwi (Nat.le_refl _) (Nat.le_refl _) ?_
    have hr : nitem t x i v = (-1, t) := by
      unfold nitem
      rw [cif_f h4]
    rw [hr]
    exact ⟨rfl, hC, rfl, fun _ _ => rfl⟩

set_option maxRecDepth 100000 in
theorem c10_read {t : tp_T} (hV : TPV t) {x i : Int32} {σ : ex_S} {μ : ex_L}(hC : TPC σ μ t) : Cg 4 yX10_read cX10_read 3 (some .long) [.ref 0, .int x, .int i] TT σ μ (fun z' σ' μ' => z' = nread t x i ∧ σ' = σ ∧ μ' = μ) := by
  refine Cl_of (by decide +kernel) (Nat.le_of_ble_eq_true rfl) ?_
  show Ev RX10 cX10_read 3 4 0 0 "read" (some .long) ev_ext _ _ 0 0 0 [(0, .ref 0), (1, .int x), (2, .int i)] [] TT σ μ
  refine e_aload_n dX10_read_0 rfl 0 rfl ?_
  refine e_getR dX10_read_1 lkX10_81 tt_0 rfl ?_
  refine e_iload_n dX10_read_4 rfl 1 rfl ?_
  refine e_iload_n dX10_read_5 rfl 2 rfl ?_
  refine e_callVi dX10_read_6 cvX10_371 rfl tt_117 rfl (c9_hasItem hV (x := x) (i := i) hC) (Nat.le_of_ble_eq_true rfl) (Nat.le_refl _) (Nat.le_refl _) rfl (Nat.le_of_ble_eq_true rfl) (fun r6 s6 m6 q6 => ?_)
  obtain ⟨q6, e6, g6⟩ := q6
  rw [e6, g6]
  clear e6 g6 s6 m6
  refine e_if_eq (t := 26) dX10_read_9 (by decide) (fun h9 => ?_) (fun h9 => ?_)
  · skip
    rw [q6, bI_eq0] at h9
    refine e_ldc2 dX10_read_26 kcX10_294 ?_
    refine e_retl dX10_read_29 (Nat.le_refl _) (Nat.le_refl _) ?_
    have hr : nread t x i = -9223372036854775808 := by
      unfold nread
      rw [cif_f h9]
    rw [hr]
    exact ⟨rfl, rfl, rfl⟩
  · skip
    rw [q6, bI_eq0] at h9
    have hA := Classical.not_not.mp h9
    obtain ⟨hP, hit⟩ := hA
    obtain ⟨k, hk, rfl⟩ := i_of (x := x) (m := 5) (by omega) hP.1 (show _ ≤ nI (5) from hP.2)
    rw [i_cl (show k < 2 ^ 31 by omega)] at hit
    have h05k := h05 hk
    obtain ⟨g1, g2, g3⟩ := hC k (by omega)
    obtain ⟨w1, w2⟩ := hV k (by omega)
    obtain ⟨c, hc, rfl⟩ := i_ofl (x := i) (m := t.2.1 k) (by omega) hit.1 (show _ < nI (t.2.1 k) from hit.2)
    refine e_aload_n dX10_read_12 rfl 0 rfl ?_
    refine e_getR dX10_read_13 lkX10_81 tt_0 rfl ?_
    refine e_getR dX10_read_16 lkX10_357 tt_117 rfl ?_
    refine e_iload_n dX10_read_19 rfl 1 rfl ?_
    refine e_aald dX10_read_20 tt_120 (Or.inr (Or.inl rfl)) (vp_in_nI (by omega) (by decide)) (by rw [i_cl (by omega)]; exact tape_at (by omega)) ?_
    refine e_iload_n dX10_read_21 rfl 2 rfl ?_
    refine e_lald dX10_read_22 (tape_row (show k < 6 by omega)) (vp_in_nI (by omega) (by decide)) ?_
    rw [i_cl (show c < 2 ^ 31 by omega), g3 c (by omega)]
    refine e_goto (t := 29) dX10_read_23 (by decide) ?_
    refine e_retl dX10_read_29 (Nat.le_refl _) (Nat.le_refl _) ?_
    have hr : nread t (nI k) (nI c) = t.2.2 k c := by
      unfold nread
      rw [i_cl (show k < 2 ^ 31 by omega), cif_t ⟨h05k, hit⟩, i_cl (show c < 2 ^ 31 by omega)]
    rw [hr]
    exact ⟨rfl, rfl, rfl⟩

set_option maxRecDepth 100000 in
theorem c11_read {t : tp_T} (hV : TPV t) {x i : Int32} {σ : ex_S} {μ : ex_L}(hC : TPR σ μ t) : Cg 4 yX11_read cX11_read 3 (some .long) [.ref 127, .int x, .int i] TT σ μ (fun z' σ' μ' => z' = nread t x i ∧ σ' = σ ∧ μ' = μ) := by
  refine Cl_of (by decide +kernel) (Nat.le_of_ble_eq_true rfl) ?_
  show Ev RX11 cX11_read 3 4 0 0 "read" (some .long) ev_ext _ _ 0 0 0 [(0, .ref 127), (1, .int x), (2, .int i)] [] TT σ μ
  refine e_iload_n dX11_read_0 rfl 1 rfl ?_
  refine e_callSi dX11_read_1 cvX11_296 rfl (c11_isTape x) (Nat.le_of_ble_eq_true rfl) (Nat.le_refl _) (Nat.le_refl _) rfl (Nat.le_of_ble_eq_true rfl) (fun r1 s1 m1 q1 => ?_)
  obtain ⟨q1, e1, g1⟩ := q1
  rw [e1, g1]
  clear e1 g1 s1 m1
  refine e_if_eq (t := 46) dX11_read_4 (by decide) (fun h4 => ?_) (fun h4 => ?_)
  · skip
    rw [q1, bI_eq0] at h4
    refine e_ldc2 dX11_read_46 kcX11_260 ?_
    refine e_retl dX11_read_49 (Nat.le_refl _) (Nat.le_refl _) ?_
    have hr : nread t x i = -9223372036854775808 := by
      unfold nread
      rw [cif_f (fun z => h4 z.1)]
    rw [hr]
    exact ⟨rfl, rfl, rfl⟩
  · skip
    rw [q1, bI_eq0] at h4
    have hP := Classical.not_not.mp h4
    obtain ⟨k, hk, rfl⟩ := i_of (x := x) (m := 5) (by omega) hP.1 (show _ ≤ nI (5) from hP.2)
    have h05k := h05 hk
    obtain ⟨g1, g2, g3⟩ := hC k (by omega)
    obtain ⟨w1, w2⟩ := hV k (by omega)
    refine e_aload_n dX11_read_7 rfl 0 rfl ?_
    refine e_getR dX11_read_8 lkX11_81 tt_127 rfl ?_
    refine e_iload_n dX11_read_11 rfl 1 rfl ?_
    refine e_iald dX11_read_12 tt_151 (vp_in_nI (by omega) (by decide)) ?_
    refine e_if_lt (t := 46) dX11_read_13 (by decide) (fun h13 => ?_) (fun h13 => ?_)
    · skip
      rw [i_cl (show k < 2 ^ 31 by omega), g1] at h13
      have hz0 : t.2.1 k = 0 := by
        rcases w2 with ⟨_, q⟩ | ⟨u, hu, q⟩
        · exact q
        · rw [q] at h13; exact absurd (i_nn (show u < 2 ^ 31 by omega)) (nlt_0 h13)
      refine e_ldc2 dX11_read_46 kcX11_260 ?_
      refine e_retl dX11_read_49 (Nat.le_refl _) (Nat.le_refl _) ?_
      have hr : nread t (nI k) i = -9223372036854775808 := by
        unfold nread
        rw [i_cl (show k < 2 ^ 31 by omega), cif_f (fun z => by
          have a1 := Int32.le_iff_toInt_le.mp z.2.1
          have a2 := Int32.lt_iff_toInt_lt.mp z.2.2
          rw [hz0, i_toInt (by decide)] at a2
          have : (0 : Int32).toInt = 0 := by decide
          omega)]
      rw [hr]
      exact ⟨rfl, rfl, rfl⟩
    · skip
      refine e_iload_n dX11_read_16 rfl 2 rfl ?_
      refine e_iconst (v := 0) dX11_read_17 rfl ?_
      refine e_aload_n dX11_read_18 rfl 0 rfl ?_
      refine e_getR dX11_read_19 lkX11_84 tt_127 rfl ?_
      refine e_iload_n dX11_read_22 rfl 1 rfl ?_
      refine e_iald dX11_read_23 tt_152 (vp_in_nI (by omega) (by decide)) ?_
      refine e_iconst (v := 1) dX11_read_24 rfl ?_
      refine e_isub dX11_read_25 ?_
      rw [i_cl (show k < 2 ^ 31 by omega), g2]
      refine e_callSi dX11_read_26 cvX11_99 rfl (c11_within i 0 (nI (t.2.1 k) - 1)) (Nat.le_of_ble_eq_true rfl) (Nat.le_refl _) (Nat.le_refl _) rfl (Nat.le_of_ble_eq_true rfl) (fun r26 s26 m26 q26 => ?_)
      obtain ⟨q26, e26, g26⟩ := q26
      rw [e26, g26]
      clear e26 g26 s26 m26
      refine e_if_eq (t := 46) dX11_read_29 (by decide) (fun h29 => ?_) (fun h29 => ?_)
      · skip
        rw [q26] at h29
        have hit : ¬ (0 ≤ i ∧ i < nI (t.2.1 k)) := fun q => bI_eq0.mp h29 ⟨q.1, (le_pred (by omega)).mpr q.2⟩
        refine e_ldc2 dX11_read_46 kcX11_260 ?_
        refine e_retl dX11_read_49 (Nat.le_refl _) (Nat.le_refl _) ?_
        have hr : nread t (nI k) i = -9223372036854775808 := by
          unfold nread
          rw [i_cl (show k < 2 ^ 31 by omega), cif_f (fun z => hit z.2)]
        rw [hr]
        exact ⟨rfl, rfl, rfl⟩
      · skip
        rw [q26, bI_eq0] at h29
        have hit := Classical.not_not.mp h29
        have hit : 0 ≤ i ∧ i < nI (t.2.1 k) := ⟨hit.1, (le_pred (by omega)).mp hit.2⟩
        obtain ⟨c, hc, rfl⟩ := i_ofl (x := i) (m := t.2.1 k) (by omega) hit.1 (show _ < nI (t.2.1 k) from hit.2)
        refine e_aload_n dX11_read_32 rfl 0 rfl ?_
        refine e_getR dX11_read_33 lkX11_87 tt_127 rfl ?_
        refine e_bipush (v := 60) dX11_read_36 rfl ?_
        refine e_iload_n dX11_read_38 rfl 1 rfl ?_
        refine e_imul dX11_read_39 ?_
        refine e_iload_n dX11_read_40 rfl 2 rfl ?_
        refine e_iadd dX11_read_41 ?_
        rw [nI_60]
        refine e_lald dX11_read_42 tt_153 (vp_in_nI (by omega) (by decide)) ?_
        rw [i_cl (show 60 * k + c < 2 ^ 31 by omega), g3 c (by omega)]
        refine e_goto (t := 49) dX11_read_43 (by decide) ?_
        refine e_retl dX11_read_49 (Nat.le_refl _) (Nat.le_refl _) ?_
        have hr : nread t (nI k) (nI c) = t.2.2 k c := by
          unfold nread
          rw [i_cl (show k < 2 ^ 31 by omega), cif_t ⟨h05k, hit⟩, i_cl (show c < 2 ^ 31 by omega)]
        rw [hr]
        exact ⟨rfl, rfl, rfl⟩
