set_option maxRecDepth 100000 in
theorem c7_clear {b : Nat} (hS : SpanAt b) {σ : ex_S} {μ : ex_L} : Cv 2 yX7_clear cX7_clear 2 none [.ref b] TT σ μ (fun σ' μ' => SpV σ' b (fun _ => 0) 0 ∧ (∀ i, i ≠ b → i ≠ b + 1 → σ' i = σ i) ∧ μ' = μ) := by
  refine Cl_of (by decide +kernel) (Nat.le_of_ble_eq_true rfl) ?_
  show Ev RX7 cX7_clear 2 2 0 0 "clear" none ev_ext _ _ 0 0 0 [(0, .ref b)] [] TT σ μ
  have loop : ∀ (m i : Nat) (σ1 : ex_S), i + m = 6 → (∀ q, q < i → σ1 (b + 1) q = 0) → (∀ i, i ≠ b → i ≠ b + 1 → σ1 i = σ i) → Ev RX7 cX7_clear 2 2 0 0 "clear" none ev_ext TT.length (fun v9 T9 σ9 μ9 => T9 = TT ∧ v9 = none ∧ (fun σ' μ' => SpV σ' b (fun _ => 0) 0 ∧ (∀ i, i ≠ b → i ≠ b + 1 → σ' i = σ i) ∧ μ' = μ) σ9 μ9) 0 0 2 [(0, .ref b), (1, .int (nI i))] [] TT σ1 μ := by
    intro m
    induction m with
    | zero =>
      intro i σ1 hi f1 f2
      obtain rfl : i = 6 := by omega
      refine e_iload_n dX7_clear_2 rfl 1 rfl ?_
      refine e_bipush (v := 6) dX7_clear_3 rfl ?_
      refine e_icmp_ge (t := 21) dX7_clear_5 (by decide) (fun h5 => ?_) (fun h5 => ?_)
      · skip
        refine e_aload_n dX7_clear_21 rfl 0 rfl ?_
        refine e_iconst (v := 0) dX7_clear_22 rfl ?_
        refine e_putI dX7_clear_23 lkX7_19' (span_0 hS) rfl rfl rfl ?_
        refine e_retv dX7_clear_26 (Nat.le_refl _) (Nat.le_refl _) ?_
        exact ⟨⟨fun q hq => by rw [sup_obj (by omega)]; exact f1 q hq, sup_same⟩, fun i h1 h2 => by rw [sup_obj h1]; exact f2 i h1 h2, rfl⟩
      · skip
        exact absurd (show nI 6 ≤ nI 6 from (i_le (by decide) (by decide)).mpr (Nat.le_refl 6)) h5
    | succ m ih =>
      intro i σ1 hi f1 f2
      refine e_iload_n dX7_clear_2 rfl 1 rfl ?_
      refine e_bipush (v := 6) dX7_clear_3 rfl ?_
      refine e_icmp_ge (t := 21) dX7_clear_5 (by decide) (fun h5 => ?_) (fun h5 => ?_)
      · skip
        exact absurd ((i_le (by omega) (by omega)).mp (show nI 6 ≤ nI i from h5)) (by omega)
      · skip
        refine e_aload_n dX7_clear_8 rfl 0 rfl ?_
        refine e_getR dX7_clear_9 lkX7_15 (span_0 hS) rfl ?_
        refine e_iload_n dX7_clear_12 rfl 1 rfl ?_
        refine e_iconst (v := 0) dX7_clear_13 rfl ?_
        refine e_iast dX7_clear_14 (span_1 hS) (vp_in_nI (by omega) (by decide)) ?_
        refine e_iinc (nI (i + 1)) [(0, .ref b), (1, .int (nI (i + 1)))] dX7_clear_15 1 rfl (nI_1 i) (by decide) rfl ?_
        refine e_goto (t := 2) dX7_clear_18 (by decide) ?_
        rw [i_cl (by omega)]
        refine ih (i + 1) _ (by omega) (fun q hq => ?_) (fun k h1 h2 => by rw [sup_obj h2]; exact f2 k h1 h2)
        by_cases e : q = i
        · rw [e, sup_same]
        · rw [sup_idx e]
          exact f1 q (by omega)
  refine e_iconst (v := 0) dX7_clear_0 rfl ?_
  refine e_istore_n [(0, .ref b), (1, .int 0)] dX7_clear_1 rfl (by decide) rfl ?_
  exact loop 6 0 σ rfl (fun q hq => absurd hq (by omega)) (fun _ _ _ => rfl)

set_option maxRecDepth 100000 in
theorem c7_copyFrom {b : Nat} (hS : SpanAt b) {o : Nat} (hO : SpanAt o) (h1 : o ≠ b) (h2 : o ≠ b + 1) (h3 : o + 1 ≠ b) {σ : ex_S} {μ : ex_L} : Cv 3 yX7_copyFrom cX7_copyFrom 2 none [.ref b, .ref o] TT σ μ (fun σ' μ' => (∀ R z, SpV σ o R z → SpV σ' b R z) ∧ (∀ i, i ≠ b → i ≠ b + 1 → σ' i = σ i) ∧ μ' = μ) := by
  refine Cl_of (by decide +kernel) (Nat.le_of_ble_eq_true rfl) ?_
  show Ev RX7 cX7_copyFrom 2 3 0 0 "copyFrom" none ev_ext _ _ 0 0 0 [(0, .ref b), (1, .ref o)] [] TT σ μ
  refine e_aload_n dX7_copyFrom_0 rfl 1 rfl ?_
  refine e_getR dX7_copyFrom_1 lkX7_15 (span_0 hO) rfl ?_
  refine e_iconst (v := 0) dX7_copyFrom_4 rfl ?_
  refine e_aload_n dX7_copyFrom_5 rfl 0 rfl ?_
  refine e_getR dX7_copyFrom_6 lkX7_15 (span_0 hS) rfl ?_
  refine e_iconst (v := 0) dX7_copyFrom_9 rfl ?_
  refine e_bipush (v := 6) dX7_copyFrom_10 rfl ?_
  refine e_acopy dX7_copyFrom_12 kaX7_23 (span_1 hO) (span_1 hS) (by decide) (by decide) (by decide) (by decide) (by decide) (Nat.le_of_ble_eq_true rfl) (Nat.le_of_ble_eq_true rfl) ?_
  refine e_aload_n dX7_copyFrom_15 rfl 0 rfl ?_
  refine e_aload_n dX7_copyFrom_16 rfl 1 rfl ?_
  refine e_getI dX7_copyFrom_17 lkX7_19 (span_0 hO) rfl ?_
  refine e_putI dX7_copyFrom_20 lkX7_19' (span_0 hS) rfl rfl rfl ?_
  refine e_retv dX7_copyFrom_23 (Nat.le_refl _) (Nat.le_refl _) ?_
  refine ⟨fun R z h => ⟨fun q hq => ?_, ?_⟩, fun i g1 g2 => by rw [sup_obj g1, srow_obj g2], rfl⟩
  · rw [sup_obj (by omega), srow_same]
    have e0 : (0 : Int32).toNatClampNeg = 0 := by decide
    have e6 : (6 : Int32).toNatClampNeg = 6 := by decide
    rw [e0, e6, pk_cpy_in (Nat.zero_le q) (by omega)]
    have := h.1 q hq
    rwa [show 0 + (q - 0) = q by omega]
  · rw [sup_same, srow_obj h2]
    exact h.2

set_option maxRecDepth 100000 in
theorem c7_left {b : Nat} (hS : SpanAt b) {p : Nat} (hp : gP p) {R : Nat → Nat} {w : Nat} (hw : w < 2 ^ 24) {σ : ex_S} {μ : ex_L}(hF : FC σ p) (hE : Ech R) (hv : ∀ q, q < 6 → σ (b + 1) q = nI (R q))  : Ci 4 yX7_left cX7_left 5 (some .int) [.ref b, .int (nI w)] TT σ μ (fun z' σ' μ' => z' = nI (lf p R 6 w) ∧ σ' = σ ∧ μ' = μ) := by
  refine Cl_of (by decide +kernel) (Nat.le_of_ble_eq_true rfl) ?_
  show Ev RX7 cX7_left 5 4 0 0 "left" (some .int) ev_ext _ _ 0 0 0 [(0, .ref b), (1, .int (nI w))] [] TT σ μ
  have hp2 : 16 ≤ p ∧ p < 32 := by rcases hp with rfl | rfl | rfl <;> decide
  have loop : ∀ (m v : Nat), m ≤ 6 → v < 2 ^ 24 → lf p R m v = lf p R 6 w → Ev RX7 cX7_left 5 4 0 0 "left" (some .int) ev_ext TT.length (fun v9 T9 σ9 μ9 => T9 = TT ∧ ∃ z9, v9 = some (.int z9) ∧ (fun z' σ' μ' => z' = nI (lf p R 6 w) ∧ σ' = σ ∧ μ' = μ) z9 σ9 μ9) 0 0 4 [(0, .ref b), (1, .int (nI w)), (2, .int (nI v)), (3, .int (nI m + (-1)))] [] TT σ μ := by
    intro m
    induction m with
    | zero =>
      intro v hm hv2 hR
      refine e_iload_n dX7_left_4 rfl 3 rfl ?_
      refine e_if_lt (t := 56) dX7_left_5 (by decide) (fun h5 => ?_) (fun h5 => ?_)
      · skip
        refine e_iload_n dX7_left_56 rfl 2 rfl ?_
        refine e_reti dX7_left_57 ev_nwi (Nat.le_refl _) (Nat.le_refl _) ?_
        exact ⟨by rw [← hR]; rfl, rfl, rfl⟩
      · skip
        exact absurd (by decide : nI 0 + (-1) < 0) h5
    | succ m ih =>
      intro v hm hv2 hR
      rw [pk_m1]
      have hn := nib_lt v m
      have hRm := (hE m (by omega)).1
      have e2 : lf p R (m + 1) v = lf p R m (if nib v m ≠ 0 ∧ R m ≠ 0 then v ^^^ gsc p (R m) (nib v m) else v) := rfl
      refine e_iload_n dX7_left_4 rfl 3 rfl ?_
      refine e_if_lt (t := 56) dX7_left_5 (by decide) (fun h5 => ?_) (fun h5 => ?_)
      · skip
        exact absurd h5 (nI_pos (by omega))
      · skip
        refine e_iload_n dX7_left_8 rfl 2 rfl ?_
        refine e_iload_n dX7_left_9 rfl 3 rfl ?_
        refine e_callNi dX7_left_10 cnX7_29 nlX7_29 rfl (c10_numberAt (nI v) (nI m)) (Nat.le_of_ble_eq_true rfl) (Nat.le_refl _) (Nat.le_refl _) rfl (Nat.le_of_ble_eq_true rfl) (fun r10 s10 m10 q10 => ?_)
        obtain ⟨q10, e10, g10⟩ := q10
        rw [e10, g10]
        clear e10 g10 s10 m10
        rw [q10, i_nib (by omega) (by omega)]
        refine e_istore [(0, .ref b), (1, .int (nI w)), (2, .int (nI v)), (3, .int (nI m)), (4, .int (nI (nib v m)))] dX7_left_13 (by decide) rfl ?_
        refine e_iload dX7_left_15 4 rfl ?_
        refine e_if_eq (t := 50) dX7_left_17 (by decide) (fun h17 => ?_) (fun h17 => ?_)
        · skip
          skip
          refine e_iinc (nI m + (-1)) [(0, .ref b), (1, .int (nI w)), (2, .int (nI v)), (3, .int (nI m + (-1))), (4, .int (nI (nib v m)))] dX7_left_50 3 rfl rfl (by decide) rfl ?_
          refine e_goto (t := 4) dX7_left_53 (by decide) ?_
          refine e_lv [(0, .ref b), (1, .int (nI w)), (2, .int (nI v)), (3, .int (nI m + (-1)))] (List.forall_mem_cons.mpr ⟨List.mem_of_getElem? (i := 0) rfl, List.forall_mem_cons.mpr ⟨List.mem_of_getElem? (i := 1) rfl, List.forall_mem_cons.mpr ⟨List.mem_of_getElem? (i := 2) rfl, List.forall_mem_cons.mpr ⟨List.mem_of_getElem? (i := 3) rfl, fun _ h => absurd h List.not_mem_nil⟩⟩⟩⟩) ?_
          rw [if_neg (fun z => z.1 ((i_eq (by omega) (by decide)).mp (show nI (nib v m) = nI 0 from h17)))] at e2
          exact ih _ (by omega) hv2 (by rw [← hR, e2])
        · skip
          refine e_aload_n dX7_left_20 rfl 0 rfl ?_
          refine e_getR dX7_left_21 lkX7_15 (span_0 hS) rfl ?_
          refine e_iload_n dX7_left_24 rfl 3 rfl ?_
          refine e_iald dX7_left_25 (span_1 hS) (vp_in_nI (by omega) (by decide)) ?_
          rw [i_cl (by omega), hv m (by omega)]
          refine e_if_eq (t := 50) dX7_left_26 (by decide) (fun h26 => ?_) (fun h26 => ?_)
          · skip
            skip
            refine e_iinc (nI m + (-1)) [(0, .ref b), (1, .int (nI w)), (2, .int (nI v)), (3, .int (nI m + (-1))), (4, .int (nI (nib v m)))] dX7_left_50 3 rfl rfl (by decide) rfl ?_
            refine e_goto (t := 4) dX7_left_53 (by decide) ?_
            refine e_lv [(0, .ref b), (1, .int (nI w)), (2, .int (nI v)), (3, .int (nI m + (-1)))] (List.forall_mem_cons.mpr ⟨List.mem_of_getElem? (i := 0) rfl, List.forall_mem_cons.mpr ⟨List.mem_of_getElem? (i := 1) rfl, List.forall_mem_cons.mpr ⟨List.mem_of_getElem? (i := 2) rfl, List.forall_mem_cons.mpr ⟨List.mem_of_getElem? (i := 3) rfl, fun _ h => absurd h List.not_mem_nil⟩⟩⟩⟩) ?_
            rw [if_neg (fun z => z.2 ((i_eq (by omega) (by decide)).mp (show nI (R m) = nI 0 from h26)))] at e2
            exact ih _ (by omega) hv2 (by rw [← hR, e2])
          · skip
            refine e_iload_n dX7_left_29 rfl 2 rfl ?_
            refine e_aload_n dX7_left_30 rfl 0 rfl ?_
            refine e_getR dX7_left_31 lkX7_9 (span_0 hS) rfl ?_
            refine e_getI dX7_left_34 lkX7_33 tt_1 rfl ?_
            rw [hF.1]
            refine e_aload_n dX7_left_37 rfl 0 rfl ?_
            refine e_getR dX7_left_38 lkX7_15 (span_0 hS) rfl ?_
            refine e_iload_n dX7_left_41 rfl 3 rfl ?_
            refine e_iald dX7_left_42 (span_1 hS) (vp_in_nI (by omega) (by decide)) ?_
            rw [i_cl (by omega), hv m (by omega)]
            refine e_iload dX7_left_43 4 rfl ?_
            refine e_callSi dX7_left_45 cvX7_38 rfl (c4_productBy (p := p) (r := R m) (c := nib v m) (by omega) hRm hn) (Nat.le_of_ble_eq_true rfl) (Nat.le_refl _) (Nat.le_refl _) rfl (Nat.le_of_ble_eq_true rfl) (fun r45 s45 m45 q45 => ?_)
            obtain ⟨q45, e45, g45⟩ := q45
            rw [e45, g45]
            clear e45 g45 s45 m45
            rw [q45, prN_gsc hp hRm hn]
            refine e_ixor dX7_left_48 ?_
            rw [nx_xor]
            refine e_istore_n [(0, .ref b), (1, .int (nI w)), (2, .int (nI (v ^^^ gsc p (R m) (nib v m)))), (3, .int (nI m)), (4, .int (nI (nib v m)))] dX7_left_49 rfl (by decide) rfl ?_
            refine e_iinc (nI m + (-1)) [(0, .ref b), (1, .int (nI w)), (2, .int (nI (v ^^^ gsc p (R m) (nib v m)))), (3, .int (nI m + (-1))), (4, .int (nI (nib v m)))] dX7_left_50 3 rfl rfl (by decide) rfl ?_
            refine e_goto (t := 4) dX7_left_53 (by decide) ?_
            refine e_lv [(0, .ref b), (1, .int (nI w)), (2, .int (nI (v ^^^ gsc p (R m) (nib v m)))), (3, .int (nI m + (-1)))] (List.forall_mem_cons.mpr ⟨List.mem_of_getElem? (i := 0) rfl, List.forall_mem_cons.mpr ⟨List.mem_of_getElem? (i := 1) rfl, List.forall_mem_cons.mpr ⟨List.mem_of_getElem? (i := 2) rfl, List.forall_mem_cons.mpr ⟨List.mem_of_getElem? (i := 3) rfl, fun _ h => absurd h List.not_mem_nil⟩⟩⟩⟩) ?_
            rw [if_pos ⟨fun z => h17 (by rw [z]; rfl), fun z => h26 (by rw [z]; rfl)⟩] at e2
            exact ih _ (by omega) (xor_lt24 hv2 (gsc_lt hp hn)) (by rw [← hR, e2])
  refine e_iload_n dX7_left_0 rfl 1 rfl ?_
  refine e_istore_n [(0, .ref b), (1, .int (nI w)), (2, .int (nI w))] dX7_left_1 rfl (by decide) rfl ?_
  refine e_iconst (v := 5) dX7_left_2 rfl ?_
  refine e_istore_n [(0, .ref b), (1, .int (nI w)), (2, .int (nI w)), (3, .int 5)] dX7_left_3 rfl (by decide) rfl ?_
  exact loop 6 w (Nat.le_refl 6) hw rfl
