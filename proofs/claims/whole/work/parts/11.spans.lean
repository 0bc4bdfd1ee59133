set_option maxRecDepth 100000 in
theorem c7_clear {b : Nat} (hS : SpanAt b) {σ : ex_S} {μ : ex_L} : Cv 2 yX7_clear cX7_clear 2 none [.ref b] TT σ μ (fun σ' μ' => SpV σ' b (fun _ => 0) 0 ∧ (∀ i, i ≠ b → i ≠ b + 1 → σ' i = σ i) ∧ μ' = μ) := by
  refine Cl_of (by decide +kernel) (Nat.le_of_ble_eq_true rfl) ?_
  show Ev RX7 cX7_clear 2 2 0 0 "clear" none ev_ext _ _ 0 0 0 [(0, .ref b)] [] TT σ μ
  have loop : ∀ (m i : Nat) (σ1 : ex_S), i + m = 6 → (∀ q, q < i → σ1 (b + 1) q = 0) → (∀ i, i ≠ b → i ≠ b + 1 → σ1 i = σ i) → Ev RX7 cX7_clear 2 2 0 0 "clear" none ev_ext TT.length (fun v9 T9 σ9 μ9 => T9 = TT ∧ v9 = none ∧ (fun σ' μ' => SpV σ' b (fun _ => 0) 0 ∧ (∀ i, i ≠ b → i ≠ b + 1 → σ' i = σ i) ∧ μ' = μ) σ9 μ9) 0 0 2 [(0, .ref b), (1, .int (nI i))] [] TT σ1 μ := by
    intro m
    induction m with
    | zero =>
      intro i σ1 hi f1 f2
      obtain rfl : i = 6 := by omega
      refine e_iload_n dX7_clear_2 rfl 1 rfl ?_
      refine e_bipush (v := 6) dX7_clear_3 rfl ?_
      refine e_icmp_ge (t := 21) dX7_clear_5 (by decide) (fun h5 => ?_) (fun h5 => ?_)
      · skip
        refine e_aload_n dX7_clear_21 rfl 0 rfl ?_
        refine e_iconst (v := 0) dX7_clear_22 rfl ?_
        refine e_putI dX7_clear_23 lkX7_19' (span_0 hS) rfl rfl rfl ?_
        refine e_retv dX7_clear_26 (Nat.le_refl _) (Nat.le_refl _) ?_
        exact ⟨⟨fun q hq => by rw [sup_obj (by omega)]; exact f1 q hq, sup_same⟩, fun i h1 h2 => by rw [sup_obj h1]; exact f2 i h1 h2, rfl⟩
      · skip
        exact absurd (show nI 6 ≤ nI 6 from (i_le (by decide) (by decide)).mpr (Nat.le_refl 6)) h5
    | succ m ih =>
      intro i σ1 hi f1 f2
      refine e_iload_n dX7_clear_2 rfl 1 rfl ?_
      refine e_bipush (v := 6) dX7_clear_3 rfl ?_
      refine e_icmp_ge (t := 21) dX7_clear_5 (by decide) (fun h5 => ?_) (fun h5 => ?_)
      · skip
        exact absurd ((i_le (by omega) (by omega)).mp (show nI 6 ≤ nI i from h5)) (by omega)
      · skip
        refine e_aload_n dX7_clear_8 rfl 0 rfl ?_
        refine e_getR dX7_clear_9 lkX7_15 (span_0 hS) rfl ?_
        refine e_iload_n dX7_clear_12 rfl 1 rfl ?_
        refine e_iconst (v := 0) dX7_clear_13 rfl ?_
        refine e_iast dX7_clear_14 (span_1 hS) (vp_in_nI (by omega) (by decide)) ?_
        refine e_iinc (nI (i + 1)) [(0, .ref b), (1, .int (nI (i + 1)))] dX7_clear_15 1 rfl (nI_1 i) (by decide) rfl ?_
        refine e_goto (t := 2) dX7_clear_18 (by decide) ?_
        rw [i_cl (by omega)]
        refine ih (i + 1) _ (by omega) (fun q hq => ?_) (fun k h1 h2 => by rw [sup_obj h2]; exact f2 k h1 h2)
        by_cases e : q = i
        · rw [e, sup_same]
        · rw [sup_idx e]
          exact f1 q (by omega)
  refine e_iconst (v := 0) dX7_clear_0 rfl ?_
  refine e_istore_n [(0, .ref b), (1, .int 0)] dX7_clear_1 rfl (by decide) rfl ?_
  exact loop 6 0 σ rfl (fun q hq => absurd hq (by omega)) (fun _ _ _ => rfl)

set_option maxRecDepth 100000 in
theorem c7_copyFrom {b : Nat} (hS : SpanAt b) {o : Nat} (hO : SpanAt o) (h1 : o ≠ b) (h2 : o ≠ b + 1) (h3 : o + 1 ≠ b) {σ : ex_S} {μ : ex_L} : Cv 3 yX7_copyFrom cX7_copyFrom 2 none [.ref b, .ref o] TT σ μ (fun σ' μ' => (∀ R z, SpV σ o R z → SpV σ' b R z) ∧ (∀ i, i ≠ b → i ≠ b + 1 → σ' i = σ i) ∧ μ' = μ) := by
  refine Cl_of (by decide +kernel) (Nat.le_of_ble_eq_true rfl) ?_
  show Ev RX7 cX7_copyFrom 2 3 0 0 "copyFrom" none ev_ext _ _ 0 0 0 [(0, .ref b), (1, .ref o)] [] TT σ μ
  refine e_aload_n dX7_copyFrom_0 rfl 1 rfl ?_
  refine e_getR dX7_copyFrom_1 lkX7_15 (span_0 hO) rfl ?_
  refine e_iconst (v := 0) dX7_copyFrom_4 rfl ?_
  refine e_aload_n dX7_copyFrom_5 rfl 0 rfl ?_
  refine e_getR dX7_copyFrom_6 lkX7_15 (span_0 hS) rfl ?_
  refine e_iconst (v := 0) dX7_copyFrom_9 rfl ?_
  refine e_bipush (v := 6) dX7_copyFrom_10 rfl ?_
  refine e_acopy dX7_copyFrom_12 kaX7_23 (span_1 hO) (span_1 hS) (by decide) (by decide) (by decide) (by decide) (by decide) (Nat.le_of_ble_eq_true rfl) (Nat.le_of_ble_eq_true rfl) ?_
  refine e_aload_n dX7_copyFrom_15 rfl 0 rfl ?_
  refine e_aload_n dX7_copyFrom_16 rfl 1 rfl ?_
  refine e_getI dX7_copyFrom_17 lkX7_19 (span_0 hO) rfl ?_
  refine e_putI dX7_copyFrom_20 lkX7_19' (span_0 hS) rfl rfl rfl ?_
  refine e_retv dX7_copyFrom_23 (Nat.le_refl _) (Nat.le_refl _) ?_
  refine ⟨fun R z h => ⟨fun q hq => ?_, ?_⟩, fun i g1 g2 => by rw [sup_obj g1, srow_obj g2], rfl⟩
  · rw [sup_obj (by omega), srow_same]
    have e0 : (0 : Int32).toNatClampNeg = 0 := by decide
    have e6 : (6 : Int32).toNatClampNeg = 6 := by decide
    rw [e0, e6, pk_cpy_in (Nat.zero_le q) (by omega)]
    have := h.1 q hq
    rwa [show 0 + (q - 0) = q by omega]
  · rw [sup_same, srow_obj h2]
    exact h.2

set_option maxRecDepth 100000 in
theorem c7_left {b : Nat} (hS : SpanAt b) {p : Nat} (hp : gP p) {R : Nat → Nat} {w : Nat} (hw : w < 2 ^ 24) {σ : ex_S} {μ : ex_L}(hF : FC σ p) (hE : Ech R) (hv : ∀ q, q < 6 → σ (b + 1) q = nI (R q))  : Ci 4 yX7_left cX7_left 5 (some .int) [.ref b, .int (nI w)] TT σ μ (fun z' σ' μ' => z' = nI (lf p R 6 w) ∧ σ' = σ ∧ μ' = μ) := by
  refine Cl_of (by decide +kernel) (Nat.le_of_ble_eq_true rfl) ?_
  show Ev RX7 cX7_left 5 4 0 0 "left" (some .int) ev_ext _ _ 0 0 0 [(0, .ref b), (1, .int (nI w))] [] TT σ μ
  have hp2 : 16 ≤ p ∧ p < 32 := by rcases hp with rfl | rfl | rfl <;> decide
  have loop : ∀ (m v : Nat), m ≤ 6 → v < 2 ^ 24 → lf p R m v = lf p R 6 w → Ev RX7 cX7_left 5 4 0 0 "left" (some .int) ev_ext TT.length (fun v9 T9 σ9 μ9 => T9 = TT ∧ ∃ z9, v9 = some (.int z9) ∧ (fun z' σ' μ' => z' = nI (lf p R 6 w) ∧ σ' = σ ∧ μ' = μ) z9 σ9 μ9) 0 0 4 [(0, .ref b), (1, .int (nI w)), (2, .int (nI v)), (3, .int (nI m + (-1)))] [] TT σ μ := by
    intro m
    induction m with
    | zero =>
      intro v hm hv2 hR
      refine e_iload_n dX7_left_4 rfl 3 rfl ?_
      refine e_if_lt (t := 56) dX7_left_5 (by decide) (fun h5 => ?_) (fun h5 => ?_)
      · skip
        refine e_iload_n dX7_left_56 rfl 2 rfl ?_
        refine e_reti dX7_left_57 ev_nwi (Nat.le_refl _) (Nat.le_refl _) ?_
        exact ⟨by rw [← hR]; rfl, rfl, rfl⟩
      · skip
        exact absurd (by decide : nI 0 + (-1) < 0) h5
    | succ m ih =>
      intro v hm hv2 hR
      rw [pk_m1]
      have hn := nib_lt v m
      have hRm := (hE m (by omega)).1
      have e2 : lf p R (m + 1) v = lf p R m (if nib v m ≠ 0 ∧ R m ≠ 0 then v ^^^ gsc p (R m) (nib v m) else v) := rfl
      refine e_iload_n dX7_left_4 rfl 3 rfl ?_
      refine e_if_lt (t := 56) dX7_left_5 (by decide) (fun h5 => ?_) (fun h5 => ?_)
      · skip
        exact absurd h5 (nI_pos (by omega))
      · skip
        refine e_iload_n dX7_left_8 rfl 2 rfl ?_
        refine e_iload_n dX7_left_9 rfl 3 rfl ?_
        refine e_callNi dX7_left_10 cnX7_29 nlX7_29 rfl (c10_numberAt (nI v) (nI m)) (Nat.le_of_ble_eq_true rfl) (Nat.le_refl _) (Nat.le_refl _) rfl (Nat.le_of_ble_eq_true rfl) (fun r10 s10 m10 q10 => ?_)
        obtain ⟨q10, e10, g10⟩ := q10
        rw [e10, g10]
        clear e10 g10 s10 m10
        rw [q10, i_nib (by omega) (by omega)]
        refine e_istore [(0, .ref b), (1, .int (nI w)), (2, .int (nI v)), (3, .int (nI m)), (4, .int (nI (nib v m)))] dX7_left_13 (by decide) rfl ?_
        refine e_iload dX7_left_15 4 rfl ?_
        refine e_if_eq (t := 50) dX7_left_17 (by decide) (fun h17 => ?_) (fun h17 => ?_)
        · skip
          skip
          refine e_iinc (nI m + (-1)) [(0, .ref b), (1, .int (nI w)), (2, .int (nI v)), (3, .int (nI m + (-1))), (4, .int (nI (nib v m)))] dX7_left_50 3 rfl rfl (by decide) rfl ?_
          refine e_goto (t := 4) dX7_left_53 (by decide) ?_
          refine e_lv [(0, .ref b), (1, .int (nI w)), (2, .int (nI v)), (3, .int (nI m + (-1)))] (List.forall_mem_cons.mpr ⟨List.mem_of_getElem? (i := 0) rfl, List.forall_mem_cons.mpr ⟨List.mem_of_getElem? (i := 1) rfl, List.forall_mem_cons.mpr ⟨List.mem_of_getElem? (i := 2) rfl, List.forall_mem_cons.mpr ⟨List.mem_of_getElem? (i := 3) rfl, fun _ h => absurd h List.not_mem_nil⟩⟩⟩⟩) ?_
          rw [if_neg (fun z => z.1 ((i_eq (by omega) (by decide)).mp (show nI (nib v m) = nI 0 from h17)))] at e2
          exact ih _ (by omega) hv2 (by rw [← hR, e2])
        · skip
          refine e_aload_n dX7_left_20 rfl 0 rfl ?_
          refine e_getR dX7_left_21 lkX7_15 (span_0 hS) rfl ?_
          refine e_iload_n dX7_left_24 rfl 3 rfl ?_
          refine e_iald dX7_left_25 (span_1 hS) (vp_in_nI (by omega) (by decide)) ?_
          rw [i_cl (by omega), hv m (by omega)]
          refine e_if_eq (t := 50) dX7_left_26 (by decide) (fun h26 => ?_) (fun h26 => ?_)
          · skip
            skip
            refine e_iinc (nI m + (-1)) [(0, .ref b), (1, .int (nI w)), (2, .int (nI v)), (3, .int (nI m + (-1))), (4, .int (nI (nib v m)))] dX7_left_50 3 rfl rfl (by decide) rfl ?_
            refine e_goto (t := 4) dX7_left_53 (by decide) ?_
            refine e_lv [(0, .ref b), (1, .int (nI w)), (2, .int (nI v)), (3, .int (nI m + (-1)))] (List.forall_mem_cons.mpr ⟨List.mem_of_getElem? (i := 0) rfl, List.forall_mem_cons.mpr ⟨List.mem_of_getElem? (i := 1) rfl, List.forall_mem_cons.mpr ⟨List.mem_of_getElem? (i := 2) rfl, List.forall_mem_cons.mpr ⟨List.mem_of_getElem? (i := 3) rfl, fun _ h => absurd h List.not_mem_nil⟩⟩⟩⟩) ?_
            rw [if_neg (fun z => z.2 ((i_eq (by omega) (by decide)).mp (show nI (R m) = nI 0 from h26)))] at e2
            exact ih _ (by omega) hv2 (by rw [← hR, e2])
          · skip
            refine e_iload_n dX7_left_29 rfl 2 rfl ?_
            refine e_aload_n dX7_left_30 rfl 0 rfl ?_
            refine e_getR dX7_left_31 lkX7_9 (span_0 hS) rfl ?_
            refine e_getI dX7_left_34 lkX7_33 tt_1 rfl ?_
            rw [hF.1]
            refine e_aload_n dX7_left_37 rfl 0 rfl ?_
            refine e_getR dX7_left_38 lkX7_15 (span_0 hS) rfl ?_
            refine e_iload_n dX7_left_41 rfl 3 rfl ?_
            refine e_iald dX7_left_42 (span_1 hS) (vp_in_nI (by omega) (by decide)) ?_
            rw [i_cl (by omega), hv m (by omega)]
            refine e_iload dX7_left_43 4 rfl ?_
            refine e_callSi dX7_left_45 cvX7_38 rfl (c4_productBy (p := p) (r := R m) (c := nib v m) (by omega) hRm hn) (Nat.le_of_ble_eq_true rfl) (Nat.le_refl _) (Nat.le_refl _) rfl (Nat.le_of_ble_eq_true rfl) (fun r45 s45 m45 q45 => ?_)
            obtain ⟨q45, e45, g45⟩ := q45
            rw [e45, g45]
            clear e45 g45 s45 m45
            rw [q45, prN_gsc hp hRm hn]
            refine e_ixor dX7_left_48 ?_
            rw [nx_xor]
            refine e_istore_n [(0, .ref b), (1, .int (nI w)), (2, .int (nI (v ^^^ gsc p (R m) (nib v m)))), (3, .int (nI m)), (4, .int (nI (nib v m)))] dX7_left_49 rfl (by decide) rfl ?_
            refine e_iinc (nI m + (-1)) [(0, .ref b), (1, .int (nI w)), (2, .int (nI (v ^^^ gsc p (R m) (nib v m)))), (3, .int (nI m + (-1))), (4, .int (nI (nib v m)))] dX7_left_50 3 rfl rfl (by decide) rfl ?_
            refine e_goto (t := 4) dX7_left_53 (by decide) ?_
            refine e_lv [(0, .ref b), (1, .int (nI w)), (2, .int (nI (v ^^^ gsc p (R m) (nib v m)))), (3, .int (nI m + (-1)))] (List.forall_mem_cons.mpr ⟨List.mem_of_getElem? (i := 0) rfl, List.forall_mem_cons.mpr ⟨List.mem_of_getElem? (i := 1) rfl, List.forall_mem_cons.mpr ⟨List.mem_of_getElem? (i := 2) rfl, List.forall_mem_cons.mpr ⟨List.mem_of_getElem? (i := 3) rfl, fun _ h => absurd h List.not_mem_nil⟩⟩⟩⟩) ?_
            rw [if_pos ⟨fun z => h17 (by rw [z]; rfl), fun z => h26 (by rw [z]; rfl)⟩] at e2
            exact ih _ (by omega) (xor_lt24 hv2 (gsc_lt hp hn)) (by rw [← hR, e2])
  refine e_iload_n dX7_left_0 rfl 1 rfl ?_
  refine e_istore_n [(0, .ref b), (1, .int (nI w)), (2, .int (nI w))] dX7_left_1 rfl (by decide) rfl ?_
  refine e_iconst (v := 5) dX7_left_2 rfl ?_
  refine e_istore_n [(0, .ref b), (1, .int (nI w)), (2, .int (nI w)), (3, .int 5)] dX7_left_3 rfl (by decide) rfl ?_
  exact loop 6 w (Nat.le_refl 6) hw rfl

set_option maxRecDepth 100000 in
theorem c7_take {b : Nat} (hS : SpanAt b) (hb : 2 < b) {p : Nat} (hp : gP p) {R : Nat → Nat} {z : Nat} {ws : List Nat} {w : Nat} (hw : w < 2 ^ 24) {σ : ex_S} {μ : ex_L}(hF : FC σ p) (hv : SpV σ b R z) (hI : SpI p R ws) (hz : z = grk p ws)  : Cv 5 yX7_take cX7_take 5 none [.ref b, .int (nI w)] TT σ μ (fun σ' μ' => (∀ i, i ≠ b → i ≠ b + 1 → σ' i = σ i) ∧ μ' = μ ∧ ∃ R' z', SpV σ' b R' z' ∧ SpI p R' (w :: ws) ∧ z' = grk p (w :: ws)) := by
  refine Cl_of (by decide +kernel) (Nat.le_of_ble_eq_true rfl) ?_
  show Ev RX7 cX7_take 5 5 0 0 "take" none ev_ext _ _ 0 0 0 [(0, .ref b), (1, .int (nI w))] [] TT σ μ
  have hlt := lf_lt hp (R := R) 6 w hw
  have loop : ∀ (m : Nat), m ≤ 6 → (∀ q, m ≤ q → q < 6 → nib (lf p R 6 w) q = 0) → Ev RX7 cX7_take 5 5 0 0 "take" none ev_ext TT.length (fun v9 T9 σ9 μ9 => T9 = TT ∧ v9 = none ∧ (fun σ' μ' => (∀ i, i ≠ b → i ≠ b + 1 → σ' i = σ i) ∧ μ' = μ ∧ ∃ R' z', SpV σ' b R' z' ∧ SpI p R' (w :: ws) ∧ z' = grk p (w :: ws)) σ9 μ9) 0 0 8 [(0, .ref b), (1, .int (nI w)), (2, .int (nI (lf p R 6 w))), (3, .int (nI m + (-1)))] [] TT σ μ := by
    intro m
    induction m with
    | zero =>
      intro hm h0
      refine e_iload_n dX7_take_8 rfl 3 rfl ?_
      refine e_if_lt (t := 64) dX7_take_9 (by decide) (fun h9 => ?_) (fun h9 => ?_)
      · skip
        refine e_retv dX7_take_64 (Nat.le_refl _) (Nat.le_refl _) ?_
        have hs := (lf_iff hp hI hw).mp (nib_0_all hlt (fun j hj => h0 j (Nat.zero_le _) hj))
        exact ⟨fun _ _ _ => rfl, rfl, R, z, hv, SpI_told hp hI hw hs, by rw [grk_told hs]; exact hz⟩
      · skip
        exact absurd (by decide : nI 0 + (-1) < 0) h9
    | succ m ih =>
      intro hm h0
      rw [pk_m1]
      have hn := nib_lt (lf p R 6 w) m
      have hi := ginv_ok hp _ hn
      refine e_iload_n dX7_take_8 rfl 3 rfl ?_
      refine e_if_lt (t := 64) dX7_take_9 (by decide) (fun h9 => ?_) (fun h9 => ?_)
      · skip
        exact absurd h9 (nI_pos (by omega))
      · skip
        refine e_iload_n dX7_take_12 rfl 2 rfl ?_
        refine e_iload_n dX7_take_13 rfl 3 rfl ?_
        refine e_callNi dX7_take_14 cnX7_29 nlX7_29 rfl (c10_numberAt (nI (lf p R 6 w)) (nI m)) (Nat.le_of_ble_eq_true rfl) (Nat.le_refl _) (Nat.le_refl _) rfl (Nat.le_of_ble_eq_true rfl) (fun r14 s14 m14 q14 => ?_)
        obtain ⟨q14, e14, g14⟩ := q14
        rw [e14, g14]
        clear e14 g14 s14 m14
        rw [q14, i_nib (by omega) (by omega)]
        refine e_istore [(0, .ref b), (1, .int (nI w)), (2, .int (nI (lf p R 6 w))), (3, .int (nI m)), (4, .int (nI (nib (lf p R 6 w) m)))] dX7_take_17 (by decide) rfl ?_
        refine e_iload dX7_take_19 4 rfl ?_
        refine e_if_eq (t := 58) dX7_take_21 (by decide) (fun h21 => ?_) (fun h21 => ?_)
        · skip
          refine e_iinc (nI m + (-1)) [(0, .ref b), (1, .int (nI w)), (2, .int (nI (lf p R 6 w))), (3, .int (nI m + (-1))), (4, .int (nI (nib (lf p R 6 w) m)))] dX7_take_58 3 rfl rfl (by decide) rfl ?_
          refine e_goto (t := 8) dX7_take_61 (by decide) ?_
          refine e_lv [(0, .ref b), (1, .int (nI w)), (2, .int (nI (lf p R 6 w))), (3, .int (nI m + (-1)))] (List.forall_mem_cons.mpr ⟨List.mem_of_getElem? (i := 0) rfl, List.forall_mem_cons.mpr ⟨List.mem_of_getElem? (i := 1) rfl, List.forall_mem_cons.mpr ⟨List.mem_of_getElem? (i := 2) rfl, List.forall_mem_cons.mpr ⟨List.mem_of_getElem? (i := 3) rfl, fun _ h => absurd h List.not_mem_nil⟩⟩⟩⟩) ?_
          exact ih (by omega) (fun q hq hq6 => by
            by_cases e : q = m
            · rw [e]
              exact (i_eq (by omega) (by decide)).mp (show nI (nib (lf p R 6 w) m) = nI 0 from h21)
            · exact h0 q (by omega) hq6)
        · skip
          refine e_aload_n dX7_take_24 rfl 0 rfl ?_
          refine e_getR dX7_take_25 lkX7_15 (span_0 hS) rfl ?_
          refine e_iload_n dX7_take_28 rfl 3 rfl ?_
          refine e_aload_n dX7_take_29 rfl 0 rfl ?_
          refine e_getR dX7_take_30 lkX7_9 (span_0 hS) rfl ?_
          refine e_iload_n dX7_take_33 rfl 2 rfl ?_
          refine e_aload_n dX7_take_34 rfl 0 rfl ?_
          refine e_getR dX7_take_35 lkX7_9 (span_0 hS) rfl ?_
          refine e_iload dX7_take_38 4 rfl ?_
          refine e_callVi dX7_take_40 cvX7_46 rfl tt_1 rfl (c4_inverse (nI (nib (lf p R 6 w) m))) (Nat.le_of_ble_eq_true rfl) (Nat.le_refl _) (Nat.le_refl _) rfl (Nat.le_of_ble_eq_true rfl) (fun r40 s40 m40 q40 => ?_)
          obtain ⟨q40, e40, g40⟩ := q40
          rw [e40, g40]
          clear e40 g40 s40 m40
          rw [q40, if_pos ⟨i_nn (by omega), (i_le (by omega) (by decide)).mpr (show nib (lf p R 6 w) m ≤ 15 by omega)⟩, i_cl (by omega), hF.2.2 _ hn]
          refine e_callVi dX7_take_43 cvX7_49 rfl tt_1 rfl (c4_product hp (r := lf p R 6 w) (c := ginv p (nib (lf p R 6 w) m)) hlt hi.1 hF) (Nat.le_of_ble_eq_true rfl) (Nat.le_refl _) (Nat.le_refl _) rfl (Nat.le_of_ble_eq_true rfl) (fun r43 s43 m43 q43 => ?_)
          obtain ⟨q43, e43, g43⟩ := q43
          rw [e43, g43]
          clear e43 g43 s43 m43
          rw [q43]
          refine e_iast dX7_take_46 (span_1 hS) (vp_in_nI (by omega) (by decide)) ?_
          refine e_aload_n dX7_take_47 rfl 0 rfl ?_
          refine e_dup dX7_take_48 rfl ?_
          refine e_getI dX7_take_49 lkX7_19 (span_0 hS) rfl ?_
          rw [sup_obj (by omega), hv.2]
          refine e_iconst (v := 1) dX7_take_52 rfl ?_
          refine e_iadd dX7_take_53 ?_
          rw [show nI z + 1 = nI (z + 1) from nI_1 _, i_cl (by omega)]
          refine e_putI dX7_take_54 lkX7_19' (span_0 hS) rfl rfl rfl ?_
          refine e_retv dX7_take_57 (Nat.le_refl _) (Nat.le_refl _) ?_
          have hld : LD (lf p R 6 w) m := ⟨fun e => h21 (by rw [e]; rfl), fun j hj hj6 => h0 j (by omega) hj6⟩
          obtain ⟨g1, g2, g3⟩ := SpI_new hp hI hw (q := m) (by omega) hld (R' := fun q => if q = m then gsc p (lf p R 6 w) (ginv p (nib (lf p R 6 w) m)) else R q) (if_pos rfl) (fun j hj e => if_neg e)
          refine ⟨fun i h1 h2 => by rw [sup_obj h1, sup_obj h2], rfl, _, z + 1, ⟨fun q hq => ?_, sup_same⟩, g1, by rw [grk_new g2, hz]⟩
          rw [sup_obj (by omega)]
          by_cases e : q = m
          · rw [e, sup_same, if_pos rfl]
          · rw [sup_idx e, if_neg e]
            exact hv.1 q hq
  refine e_aload_n dX7_take_0 rfl 0 rfl ?_
  refine e_iload_n dX7_take_1 rfl 1 rfl ?_
  refine e_callVi dX7_take_2 cvX7_42 rfl (span_0 hS) rfl (c7_left hS hp hw hF hI.2.1 hv.1) (Nat.le_of_ble_eq_true rfl) (Nat.le_refl _) (Nat.le_refl _) rfl (Nat.le_of_ble_eq_true rfl) (fun r2 s2 m2 q2 => ?_)
  obtain ⟨q2, e2, g2⟩ := q2
  rw [e2, g2]
  clear e2 g2 s2 m2
  rw [q2]
  refine e_istore_n [(0, .ref b), (1, .int (nI w)), (2, .int (nI (lf p R 6 w)))] dX7_take_5 rfl (by decide) rfl ?_
  refine e_iconst (v := 5) dX7_take_6 rfl ?_
  refine e_istore_n [(0, .ref b), (1, .int (nI w)), (2, .int (nI (lf p R 6 w))), (3, .int 5)] dX7_take_7 rfl (by decide) rfl ?_
  exact loop 6 (Nat.le_refl 6) (fun q h1 h2 => absurd h2 (by omega))

theorem fl_top {S : ns_T} {t n : Nat} (h : t.testBit n = true) : fl S t (n + 1) = S 5 n :: fl S t n := by
  conv => lhs; unfold fl
  rw [if_pos h]
theorem fl_no {S : ns_T} {t n : Nat} (h : t.testBit n = false) : fl S t (n + 1) = fl S t n := by
  conv => lhs; unfold fl
  rw [if_neg (by rw [h]; decide)]

set_option maxRecDepth 100000 in
theorem c7_takeAll {b o : Nat} (hS : SpanAt b) (hN : NodesAt o) (hb : 2 < b) (hd : b + 1 < o ∨ o + 19 ≤ b) {p : Nat} (hp : gP p) {S : ns_T} (hV : VS S) {R : Nat → Nat} {z t : Nat} {ws : List Nat} (ht : t < 2 ^ 31) {σ : ex_S} {μ : ex_L}(hF : FC σ p) (hC : NC σ o S) (hv : SpV σ b R z) (hI : SpI p R ws) (hz : z = grk p ws)  : Cv 6 yX7_takeAll cX7_takeAll 4 none [.ref b, .ref o, .int (nI t)] TT σ μ (fun σ' μ' => (∀ i, i ≠ b → i ≠ b + 1 → σ' i = σ i) ∧ μ' = μ ∧ ∃ R' z', SpV σ' b R' z' ∧ SpI p R' (fl S t (S 0 0) ++ ws) ∧ z' = grk p (fl S t (S 0 0) ++ ws)) := by
  refine Cl_of (by decide +kernel) (Nat.le_of_ble_eq_true rfl) ?_
  show Ev RX7 cX7_takeAll 4 6 0 0 "takeAll" none ev_ext _ _ 0 0 0 [(0, .ref b), (1, .ref o), (2, .int (nI t))] [] TT σ μ
  have hn := hV.1
  have loop : ∀ (m i : Nat) (σ1 : ex_S) (R : Nat → Nat) (z : Nat), i + m = S 0 0 → (∀ i, i ≠ b → i ≠ b + 1 → σ1 i = σ i) → SpV σ1 b R z → SpI p R (fl S t i ++ ws) → z = grk p (fl S t i ++ ws) → Ev RX7 cX7_takeAll 4 6 0 0 "takeAll" none ev_ext TT.length (fun v9 T9 σ9 μ9 => T9 = TT ∧ v9 = none ∧ (fun σ' μ' => (∀ i, i ≠ b → i ≠ b + 1 → σ' i = σ i) ∧ μ' = μ ∧ ∃ R' z', SpV σ' b R' z' ∧ SpI p R' (fl S t (S 0 0) ++ ws) ∧ z' = grk p (fl S t (S 0 0) ++ ws)) σ9 μ9) 0 0 2 [(0, .ref b), (1, .ref o), (2, .int (nI t)), (3, .int (nI i))] [] TT σ1 μ := by
    intro m
    induction m with
    | zero =>
      intro i σ1 R z hi f1 f2 f3 f4
      obtain rfl : i = S 0 0 := by omega
      have hC1 := hC.to hV (σ' := σ1) (fun k h1 h2 => f1 k (by omega) (by omega))
      refine e_iload_n dX7_takeAll_2 rfl 3 rfl ?_
      refine e_aload_n dX7_takeAll_3 rfl 1 rfl ?_
      refine e_getI dX7_takeAll_4 lkX7_52 (nodes_0 hN) rfl ?_
      rw [hC1.1]
      refine e_icmp_ge (t := 34) dX7_takeAll_7 (by decide) (fun h7 => ?_) (fun h7 => ?_)
      · skip
        refine e_retv dX7_takeAll_34 (Nat.le_refl _) (Nat.le_refl _) ?_
        exact ⟨f1, rfl, R, z, f2, f3, f4⟩
      · skip
        exact absurd (show nI (S 0 0) ≤ nI (S 0 0) from (i_le (by omega) (by omega)).mpr (by omega)) h7
    | succ m ih =>
      intro i σ1 R z hi f1 f2 f3 f4
      have hC1 := hC.to hV (σ' := σ1) (fun k h1 h2 => f1 k (by omega) (by omega))
      have hF1 := hF.to (σ' := σ1) (f1 1 (by omega) (by omega)) (f1 2 (by omega) (by omega))
      have hf := (hV.2.2.2.2.2.2.1 i (by omega)).2.2.2.1
      refine e_iload_n dX7_takeAll_2 rfl 3 rfl ?_
      refine e_aload_n dX7_takeAll_3 rfl 1 rfl ?_
      refine e_getI dX7_takeAll_4 lkX7_52 (nodes_0 hN) rfl ?_
      rw [hC1.1]
      refine e_icmp_ge (t := 34) dX7_takeAll_7 (by decide) (fun h7 => ?_) (fun h7 => ?_)
      · skip
        exact absurd ((i_le (by omega) (by omega)).mp (show nI (S 0 0) ≤ nI i from h7)) (by omega)
      · skip
        refine e_iload_n dX7_takeAll_10 rfl 2 rfl ?_
        refine e_iload_n dX7_takeAll_11 rfl 3 rfl ?_
        refine e_ishr dX7_takeAll_12 ?_
        refine e_iconst (v := 1) dX7_takeAll_13 rfl ?_
        refine e_iand dX7_takeAll_14 ?_
        refine e_if_eq (t := 28) dX7_takeAll_15 (by decide) (fun h15 => ?_) (fun h15 => ?_)
        · skip
          have hbit := (i_bit (by omega) (by omega)).mp h15
          refine e_iinc (nI (i + 1)) [(0, .ref b), (1, .ref o), (2, .int (nI t)), (3, .int (nI (i + 1)))] dX7_takeAll_28 3 rfl (nI_1 i) (by decide) rfl ?_
          refine e_goto (t := 2) dX7_takeAll_31 (by decide) ?_
          exact ih (i + 1) σ1 R z (by omega) f1 f2 (by rw [fl_no hbit]; exact f3) (by rw [fl_no hbit]; exact f4)
        · skip
          have hbit : t.testBit i = true := by
            cases hb9 : t.testBit i with
            | true => rfl
            | false => exact absurd ((i_bit (by omega) (by omega)).mpr hb9) h15
          refine e_aload_n dX7_takeAll_18 rfl 0 rfl ?_
          refine e_aload_n dX7_takeAll_19 rfl 1 rfl ?_
          refine e_getR dX7_takeAll_20 lkX7_55 (nodes_0 hN) rfl ?_
          refine e_iload_n dX7_takeAll_23 rfl 3 rfl ?_
          refine e_iald dX7_takeAll_24 (nodes_4 hN) (vp_in_nI (by omega) (by decide)) ?_
          rw [i_cl (by omega), (hC1.2.2.2.2.1 i (by omega)).2.2.2.1]
          refine e_callVv dX7_takeAll_25 cvX7_58 rfl (span_0 hS) rfl (c7_take hS hb hp (w := S 5 i) (by omega) hF1 f2 f3 f4) (Nat.le_of_ble_eq_true rfl) (Nat.le_refl _) (Nat.le_refl _) rfl (Nat.le_of_ble_eq_true rfl) (fun s25 m25 q25 => ?_)
          obtain ⟨a1, a2, R9, z9, a3, a4, a5⟩ := q25
          rw [a2]
          refine e_iinc (nI (i + 1)) [(0, .ref b), (1, .ref o), (2, .int (nI t)), (3, .int (nI (i + 1)))] dX7_takeAll_28 3 rfl (nI_1 i) (by decide) rfl ?_
          refine e_goto (t := 2) dX7_takeAll_31 (by decide) ?_
          exact ih (i + 1) _ R9 z9 (by omega) (fun k h1 h2 => by rw [a1 k h1 h2]; exact f1 k h1 h2) a3 (by rw [fl_top hbit]; exact a4) (by rw [fl_top hbit]; exact a5)
  refine e_iconst (v := 0) dX7_takeAll_0 rfl ?_
  refine e_istore_n [(0, .ref b), (1, .ref o), (2, .int (nI t)), (3, .int 0)] dX7_takeAll_1 rfl (by decide) rfl ?_
  exact loop (S 0 0) 0 σ R z (by omega) (fun _ _ _ => rfl) hv hI hz

/-- the least of a set (10: none) */ -/
def lowF (s : Nat) : Nat → Nat → Nat
  | 0, _ => 10
  | m + 1, i => if s.testBit i then i else lowF s m (i + 1)
def lowb (s : Nat) : Nat := lowF s 10 0
theorem low_ok : ∀ s, s < 1024 → (s = 0 → lowb s = 10) ∧ (s ≠ 0 → lowb s < 10 ∧ s % 2 ^ (lowb s + 1) = 2 ^ lowb s ∧ (s &&& (s - 1)) + 2 ^ lowb s = s ∧ 2 ^ lowb s ≤ s ∧ ((s &&& (s - 1)) ≠ 0 → lowb s < lowb (s &&& (s - 1)))) := by decide +kernel
theorem low_bit : ∀ s, s < 1024 → s ≠ 0 → ∀ j, j < 10 → s.testBit j = ((s &&& (s - 1)).testBit j || j == lowb s) := by decide +kernel
theorem fl_congr {S : ns_T} {t t' : Nat} : ∀ {n : Nat}, (∀ j, j < n → t.testBit j = t'.testBit j) → fl S t n = fl S t' n
  | 0, _ => rfl
  | n + 1, h => by
    unfold fl
    rw [fl_congr (fun j hj => h j (by omega)), h n (by omega)]
theorem tb_hi {s n j : Nat} (h : s < 2 ^ n) : (s + 2 ^ n).testBit j = if j < n then s.testBit j else decide (j = n) := by
  have h1 := Nat.testBit_two_pow_mul_add 1 h j
  rw [Nat.mul_one, Nat.add_comm] at h1
  rw [h1]
  split
  · rfl
  · by_cases e : j = n
    · subst e
      rw [Nat.sub_self, decide_eq_true rfl]
      rfl
    · rw [decide_eq_false e]
      exact Nat.testBit_lt_two_pow (Nat.one_lt_two_pow (by omega))
theorem fl_hi {S : ns_T} {s n : Nat} (h : s < 2 ^ n) : fl S (s + 2 ^ n) (n + 1) = S 5 n :: fl S s n := by
  rw [fl_top (by rw [tb_hi h, if_neg (Nat.lt_irrefl n)]; exact decide_eq_true rfl)]
  refine congrArg (fun z => S 5 n :: z) (fl_congr (fun j hj => by rw [tb_hi h, if_pos hj]))
theorem fl_lo {S : ns_T} {s n : Nat} (h : s < 2 ^ n) : fl S s (n + 1) = fl S s n := fl_no (Nat.testBit_lt_two_pow h)

set_option maxRecDepth 100000 in
theorem c6_leastOf {s : Nat} (hs : s < 2 ^ 31) {σ : ex_S} {μ : ex_L} : Ci 2 yX6_leastOf cX6_leastOf 2 (some .int) [.int (nI s)] TT σ μ (fun z' σ' μ' => z' = nI (lowb s) ∧ σ' = σ ∧ μ' = μ) := by
  refine Cl_of (by decide +kernel) (Nat.le_of_ble_eq_true rfl) ?_
  show Ev RX6 cX6_leastOf 2 2 0 0 "leastOf" (some .int) ev_ext _ _ 0 0 0 [(0, .int (nI s))] [] TT σ μ
  have loop : ∀ (m i : Nat), i + m = 10 → lowF s m i = lowb s → Ev RX6 cX6_leastOf 2 2 0 0 "leastOf" (some .int) ev_ext TT.length (fun v9 T9 σ9 μ9 => T9 = TT ∧ ∃ z9, v9 = some (.int z9) ∧ (fun z' σ' μ' => z' = nI (lowb s) ∧ σ' = σ ∧ μ' = μ) z9 σ9 μ9) 0 0 2 [(0, .int (nI s)), (1, .int (nI i))] [] TT σ μ := by
    intro m
    induction m with
    | zero =>
      intro i hi hR
      obtain rfl : i = 10 := by omega
      refine e_iload_n dX6_leastOf_2 rfl 1 rfl ?_
      refine e_bipush (v := 10) dX6_leastOf_3 rfl ?_
      refine e_icmp_ge (t := 24) dX6_leastOf_5 (by decide) (fun h5 => ?_) (fun h5 => ?_)
      · skip
        refine e_bipush (v := 10) dX6_leastOf_24 rfl ?_
        refine e_reti dX6_leastOf_26 ev_nwi (Nat.le_refl _) (Nat.le_refl _) ?_
        exact ⟨by rw [← hR]; rfl, rfl, rfl⟩
      · skip
        exact absurd (show nI 10 ≤ nI 10 from (i_le (by decide) (by decide)).mpr (Nat.le_refl 10)) h5
    | succ m ih =>
      intro i hi hR
      have e2 : lowF s (m + 1) i = if s.testBit i then i else lowF s m (i + 1) := rfl
      refine e_iload_n dX6_leastOf_2 rfl 1 rfl ?_
      refine e_bipush (v := 10) dX6_leastOf_3 rfl ?_
      refine e_icmp_ge (t := 24) dX6_leastOf_5 (by decide) (fun h5 => ?_) (fun h5 => ?_)
      · skip
        exact absurd ((i_le (by omega) (by omega)).mp (show nI 10 ≤ nI i from h5)) (by omega)
      · skip
        refine e_iload_n dX6_leastOf_8 rfl 0 rfl ?_
        refine e_iload_n dX6_leastOf_9 rfl 1 rfl ?_
        refine e_ishr dX6_leastOf_10 ?_
        refine e_iconst (v := 1) dX6_leastOf_11 rfl ?_
        refine e_iand dX6_leastOf_12 ?_
        refine e_if_eq (t := 18) dX6_leastOf_13 (by decide) (fun h13 => ?_) (fun h13 => ?_)
        · skip
          refine e_iinc (nI (i + 1)) [(0, .int (nI s)), (1, .int (nI (i + 1)))] dX6_leastOf_18 1 rfl (nI_1 i) (by decide) rfl ?_
          refine e_goto (t := 2) dX6_leastOf_21 (by decide) ?_
          rw [if_neg (by rw [(i_bit (by omega) (by omega)).mp h13]; decide)] at e2
          exact ih (i + 1) (by omega) (by rw [← hR, e2])
        · skip
          refine e_iload_n dX6_leastOf_16 rfl 1 rfl ?_
          refine e_reti dX6_leastOf_17 ev_nwi (Nat.le_refl _) (Nat.le_refl _) ?_
          rw [if_pos (by
            cases hb9 : s.testBit i with
            | true => rfl
            | false => exact absurd ((i_bit (by omega) (by omega)).mpr hb9) h13)] at e2
          exact ⟨by rw [← hR, e2], rfl, rfl⟩
  refine e_iconst (v := 0) dX6_leastOf_0 rfl ?_
  refine e_istore_n [(0, .int (nI s)), (1, .int 0)] dX6_leastOf_1 rfl (by decide) rfl ?_
  exact loop 10 0 rfl rfl

set_option maxRecDepth 100000 in
theorem c6_extend {o n : Nat} (hN : NodesAt o) (ho : 30 ≤ o) {p : Nat} (hp : gP p) {S : ns_T} (hV : VS S) (hn : S 0 0 = n + 1) {σ : ex_S} {μ : ex_L}(hF : FC σ p) (hC : NC σ o S) (h28 : SpV σ 28 (fun _ => 0) 0) (hK : ∀ t, t < 2 ^ n → σ 6 t = nI (grk p (fl S t n))) : Cv 7 yX6_extend cX6_extend 7 none [.ref 5, .ref o, .int (nI n)] TT σ μ (fun σ' μ' => (∀ i, i ≠ 6 → (i < 8 ∨ 30 ≤ i) → σ' i = σ i) ∧ SpV σ' 28 (fun _ => 0) 0 ∧ (∀ t, t < 2 ^ (n + 1) → σ' 6 t = nI (grk p (fl S t (n + 1)))) ∧ μ' = μ) := by
  refine Cl_of (by decide +kernel) (Nat.le_of_ble_eq_true rfl) ?_
  show Ev RX6 cX6_extend 7 7 0 0 "extend" none ev_ext _ _ 0 0 0 [(0, .ref 5), (1, .ref o), (2, .int (nI n))] [] TT σ μ
  have hn10 : n + 1 ≤ 10 := by have := hV.1; omega
  have hp2n : 2 ^ n ≤ 2 ^ 9 := Nat.pow_le_pow_right (by decide) (by omega)
  have hbit : (1 : Int32) <<< (nI n &&& 31) = nI (2 ^ n) := by
    have := i_shl (n := 1) (i := n) (by omega) (by omega)
    rwa [Nat.one_mul] at this
  have hform : ∀ j, j < n + 1 → S 5 j < 2 ^ 20 := fun j hj => (hV.2.2.2.2.2.2.1 j (by omega)).2.2.2.1
  have loop : ∀ (m s : Nat) (σ1 : ex_S), s + m = 2 ^ n → (∀ i, i ≠ 6 → (i < 8 ∨ 30 ≤ i) → σ1 i = σ i) → SpV σ1 28 (fun _ => 0) 0 → (∀ t, t < 2 ^ n → σ1 6 t = nI (grk p (fl S t n))) → (∀ t, t < s → σ1 6 (t + 2 ^ n) = nI (grk p (fl S (t + 2 ^ n) (n + 1)))) → (∀ i, i < n → ∀ t, t % 2 ^ (i + 1) = 2 ^ i → t < s → s ≤ t + 2 ^ (i + 1) → ∃ R z, SpV σ1 (8 + 2 * i) R z ∧ SpI p R (fl S t n) ∧ z = grk p (fl S t n)) → Ev RX6 cX6_extend 7 7 0 0 "extend" none ev_ext TT.length (fun v9 T9 σ9 μ9 => T9 = TT ∧ v9 = none ∧ (fun σ' μ' => (∀ i, i ≠ 6 → (i < 8 ∨ 30 ≤ i) → σ' i = σ i) ∧ SpV σ' 28 (fun _ => 0) 0 ∧ (∀ t, t < 2 ^ (n + 1) → σ' 6 t = nI (grk p (fl S t (n + 1)))) ∧ μ' = μ) σ9 μ9) 0 0 16 [(0, .ref 5), (1, .ref o), (2, .int (nI n)), (3, .int (nI (2 ^ n))), (4, .int (nI s))] [] TT σ1 μ := by
    intro m
    induction m with
    | zero =>
      intro s σ1 hs f1 f2 f3 f4 f5
      obtain rfl : s = 2 ^ n := by omega
      refine e_iload dX6_extend_16 4 rfl ?_
      refine e_iload_n dX6_extend_18 rfl 3 rfl ?_
      refine e_icmp_ge (t := 135) dX6_extend_19 (by decide) (fun h19 => ?_) (fun h19 => ?_)
      · skip
        refine e_retv dX6_extend_135 (Nat.le_refl _) (Nat.le_refl _) ?_
        refine ⟨f1, f2, fun t ht => ?_, rfl⟩
        by_cases e : t < 2 ^ n
        · rw [f3 t e, fl_lo e]
        · have h2 := f4 (t - 2 ^ n) (by rw [Nat.pow_succ] at ht; omega)
          rwa [show t - 2 ^ n + 2 ^ n = t by omega] at h2
      · skip
        exact absurd (show nI (2 ^ n) ≤ nI (2 ^ n) from (i_le (by omega) (by omega)).mpr (by omega)) h19
    | succ m ih =>
      intro s σ1 hs f1 f2 f3 f4 f5
      have hC1 := hC.to hV (σ' := σ1) (fun k h1 h2 => f1 k (by omega) (by omega))
      have hF1 := hF.to (σ' := σ1) (f1 1 (by omega) (by omega)) (f1 2 (by omega) (by omega))
      have hs10 : s < 1024 := by omega
      obtain ⟨lo1, lo2⟩ := low_ok s hs10
      have hidx : nI s ||| nI (2 ^ n) = nI (s + 2 ^ n) := by
        have h1 := fa_or_sum (k := n) (a := s) 1 (by omega)
        rw [Nat.mul_one] at h1
        rw [Int32.or_comm, h1, Nat.add_comm]
      have hlt24 : ∀ j, j < n + 1 → S 5 j < 2 ^ 24 := fun j hj => by have := hform j hj; omega
      refine e_iload dX6_extend_16 4 rfl ?_
      refine e_iload_n dX6_extend_18 rfl 3 rfl ?_
      refine e_icmp_ge (t := 135) dX6_extend_19 (by decide) (fun h19 => ?_) (fun h19 => ?_)
      · skip
        exact absurd ((i_le (by omega) (by omega)).mp (show nI (2 ^ n) ≤ nI s from h19)) (by omega)
      · skip
        refine e_iload dX6_extend_22 4 rfl ?_
        refine e_callSi dX6_extend_24 cvX6_34 rfl (c6_leastOf (s := s) (by omega)) (Nat.le_of_ble_eq_true rfl) (Nat.le_refl _) (Nat.le_refl _) rfl (Nat.le_of_ble_eq_true rfl) (fun r24 s24 m24 q24 => ?_)
        obtain ⟨q24, e24, g24⟩ := q24
        rw [e24, g24]
        clear e24 g24 s24 m24
        rw [q24]
        refine e_istore [(0, .ref 5), (1, .ref o), (2, .int (nI n)), (3, .int (nI (2 ^ n))), (4, .int (nI s)), (5, .int (nI (lowb s)))] dX6_extend_27 (by decide) rfl ?_
        refine e_iload dX6_extend_29 4 rfl ?_
        refine e_if_eq (t := 76) dX6_extend_31 (by decide) (fun h31 => ?_) (fun h31 => ?_)
        · skip
          have hs0 : s = 0 := (i_eq (by omega) (by decide)).mp (show nI s = nI 0 from h31)
          subst hs0
          rw [lo1 rfl]
          have hSV := f2
          have e0 : fl S 0 n = [] := by
            cases h9 : fl S 0 n with
            | nil => rfl
            | cons a b =>
              obtain ⟨j, -, h10, -⟩ := fl_mem.mp (show a ∈ fl S 0 n from by rw [h9]; exact List.mem_cons_self)
              rw [Nat.zero_testBit] at h10
              cases h10
          have hI : SpI p (fun _ => 0) (fl S 0 n) := by rw [e0]; exact SpI_nil p
          refine e_aload_n dX6_extend_76 rfl 0 rfl ?_
          refine e_getR dX6_extend_77 lkX6_17 tt_5 rfl ?_
          refine e_iload dX6_extend_80 5 rfl ?_
          refine e_aald dX6_extend_82 tt_7 (Or.inr (Or.inr rfl)) (vp_in_nI (by omega) (by decide)) (by rw [i_cl (by omega)]; exact spans_at (by omega)) ?_
          refine e_aload_n dX6_extend_83 rfl 1 rfl ?_
          refine e_getR dX6_extend_84 lkX6_41 (nodes_0 hN) rfl ?_
          refine e_iload_n dX6_extend_87 rfl 2 rfl ?_
          refine e_iald dX6_extend_88 (nodes_4 hN) (vp_in_nI (by omega) (by decide)) ?_
          rw [i_cl (by omega), (hC1.2.2.2.2.1 n (by omega)).2.2.2.1]
          refine e_callVi dX6_extend_89 cvX6_48 rfl (span_0 (span_k (show 10 < 11 by omega))) rfl (c7_left (span_k (show 10 < 11 by omega)) hp (w := S 5 n) (hlt24 n (by omega)) hF1 hI.2.1 hSV.1) (Nat.le_of_ble_eq_true rfl) (Nat.le_refl _) (Nat.le_refl _) rfl (Nat.le_of_ble_eq_true rfl) (fun r89 s89 m89 q89 => ?_)
          obtain ⟨q89, e89, g89⟩ := q89
          rw [e89, g89]
          clear e89 g89 s89 m89
          refine e_if_ne (t := 99) dX6_extend_92 (by decide) (fun h92 => ?_) (fun h92 => ?_)
          · skip
            have hsp : ¬ Sp p (fl S 0 n) (S 5 n) := fun q => h92 (by rw [q89, (lf_iff hp hI (hlt24 n (by omega))).mpr q]; rfl)
            refine e_iconst (v := 0) dX6_extend_99 rfl ?_
            refine e_istore [(0, .ref 5), (1, .ref o), (2, .int (nI n)), (3, .int (nI (2 ^ n))), (4, .int (nI 0)), (5, .int (nI 10)), (6, .int 0)] dX6_extend_100 (by decide) rfl ?_
            refine e_aload_n dX6_extend_102 rfl 0 rfl ?_
            refine e_getR dX6_extend_103 lkX6_9 tt_5 rfl ?_
            refine e_iload dX6_extend_106 4 rfl ?_
            refine e_iload_n dX6_extend_108 rfl 3 rfl ?_
            refine e_ior dX6_extend_109 ?_
            rw [hidx]
            refine e_aload_n dX6_extend_110 rfl 0 rfl ?_
            refine e_getR dX6_extend_111 lkX6_9 tt_5 rfl ?_
            refine e_iload dX6_extend_114 4 rfl ?_
            refine e_iald dX6_extend_116 tt_6 (vp_in_nI (by omega) (by decide)) ?_
            refine e_iload dX6_extend_117 6 rfl ?_
            refine e_if_eq (t := 126) dX6_extend_119 (by decide) (fun h119 => ?_) (fun h119 => ?_)
            · skip
              refine e_iconst (v := 1) dX6_extend_126 rfl ?_
              refine e_iadd dX6_extend_127 ?_
              refine e_iast dX6_extend_128 tt_6 (vp_in_nI (by omega) (by decide)) ?_
              refine e_iinc (nI (0 + 1)) [(0, .ref 5), (1, .ref o), (2, .int (nI n)), (3, .int (nI (2 ^ n))), (4, .int (nI (0 + 1))), (5, .int (nI 10)), (6, .int 0)] dX6_extend_129 4 rfl (nI_1 0) (by decide) rfl ?_
              refine e_goto (t := 16) dX6_extend_132 (by decide) ?_
              refine e_lv [(0, .ref 5), (1, .ref o), (2, .int (nI n)), (3, .int (nI (2 ^ n))), (4, .int (nI (0 + 1)))] (List.forall_mem_cons.mpr ⟨List.mem_of_getElem? (i := 0) rfl, List.forall_mem_cons.mpr ⟨List.mem_of_getElem? (i := 1) rfl, List.forall_mem_cons.mpr ⟨List.mem_of_getElem? (i := 2) rfl, List.forall_mem_cons.mpr ⟨List.mem_of_getElem? (i := 3) rfl, List.forall_mem_cons.mpr ⟨List.mem_of_getElem? (i := 4) rfl, fun _ h => absurd h List.not_mem_nil⟩⟩⟩⟩⟩) ?_
              rw [i_cl (by omega), i_cl (by omega)]
              have hval : σ1 6 0 + 1 = nI (grk p (fl S (0 + 2 ^ n) (n + 1))) := by
                rw [f3 0 (by omega), fl_hi (by omega), grk_new hsp]
                exact i_add _ 1
              rw [hval]
              refine ih (0 + 1) _ (by omega) (fun k h1 h2 => by rw [sup_obj h1]; exact f1 k h1 h2) (f2.to (sup_obj (by decide)) (sup_obj (by decide))) (fun t ht => by rw [sup_idx (by omega)]; exact f3 t ht) (fun t ht => ?_) (fun i hi t h1 h2 h3 => ?_)
              · by_cases e : t = 0
                · rw [e, sup_same]
                · rw [sup_idx (by omega)]
                  exact f4 t (by omega)
              · obtain ⟨R, z, g1, g2, g3⟩ : ∃ R z, SpV σ1 (8 + 2 * i) R z ∧ SpI p R (fl S t n) ∧ z = grk p (fl S t n) := by
                  exfalso
                  have h9 : 0 < 2 ^ i := Nat.two_pow_pos i
                  obtain rfl : t = 0 := by omega
                  rw [Nat.zero_mod] at h1
                  omega
                exact ⟨R, z, g1.to (sup_obj (by omega)) (sup_obj (by omega)), g2, g3⟩
            · skip
              exact absurd (rfl : (0 : Int32) = 0) h119
          · skip
            have hsp : Sp p (fl S 0 n) (S 5 n) := (lf_iff hp hI (hlt24 n (by omega))).mp ((i_eq (Nat.lt_of_lt_of_le (lf_lt hp _ _ (hlt24 n (by omega))) (by decide)) (by decide)).mp (show nI (lf p (fun _ => 0) 6 (S 5 n)) = nI 0 from by rw [← q89]; exact h92))
            refine e_iconst (v := 1) dX6_extend_95 rfl ?_
            refine e_goto (t := 100) dX6_extend_96 (by decide) ?_
            refine e_istore [(0, .ref 5), (1, .ref o), (2, .int (nI n)), (3, .int (nI (2 ^ n))), (4, .int (nI 0)), (5, .int (nI 10)), (6, .int 1)] dX6_extend_100 (by decide) rfl ?_
            refine e_aload_n dX6_extend_102 rfl 0 rfl ?_
            refine e_getR dX6_extend_103 lkX6_9 tt_5 rfl ?_
            refine e_iload dX6_extend_106 4 rfl ?_
            refine e_iload_n dX6_extend_108 rfl 3 rfl ?_
            refine e_ior dX6_extend_109 ?_
            rw [hidx]
            refine e_aload_n dX6_extend_110 rfl 0 rfl ?_
            refine e_getR dX6_extend_111 lkX6_9 tt_5 rfl ?_
            refine e_iload dX6_extend_114 4 rfl ?_
            refine e_iald dX6_extend_116 tt_6 (vp_in_nI (by omega) (by decide)) ?_
            refine e_iload dX6_extend_117 6 rfl ?_
            refine e_if_eq (t := 126) dX6_extend_119 (by decide) (fun h119 => ?_) (fun h119 => ?_)
            · skip
              exact absurd h119 (by decide)
            · skip
              refine e_iconst (v := 0) dX6_extend_122 rfl ?_
              refine e_goto (t := 127) dX6_extend_123 (by decide) ?_
              refine e_iadd dX6_extend_127 ?_
              refine e_iast dX6_extend_128 tt_6 (vp_in_nI (by omega) (by decide)) ?_
              refine e_iinc (nI (0 + 1)) [(0, .ref 5), (1, .ref o), (2, .int (nI n)), (3, .int (nI (2 ^ n))), (4, .int (nI (0 + 1))), (5, .int (nI 10)), (6, .int 1)] dX6_extend_129 4 rfl (nI_1 0) (by decide) rfl ?_
              refine e_goto (t := 16) dX6_extend_132 (by decide) ?_
              refine e_lv [(0, .ref 5), (1, .ref o), (2, .int (nI n)), (3, .int (nI (2 ^ n))), (4, .int (nI (0 + 1)))] (List.forall_mem_cons.mpr ⟨List.mem_of_getElem? (i := 0) rfl, List.forall_mem_cons.mpr ⟨List.mem_of_getElem? (i := 1) rfl, List.forall_mem_cons.mpr ⟨List.mem_of_getElem? (i := 2) rfl, List.forall_mem_cons.mpr ⟨List.mem_of_getElem? (i := 3) rfl, List.forall_mem_cons.mpr ⟨List.mem_of_getElem? (i := 4) rfl, fun _ h => absurd h List.not_mem_nil⟩⟩⟩⟩⟩) ?_
              rw [i_cl (by omega), i_cl (by omega)]
              have hval : σ1 6 0 + 0 = nI (grk p (fl S (0 + 2 ^ n) (n + 1))) := by
                rw [f3 0 (by omega), fl_hi (by omega), grk_told hsp]
                exact i_add _ 0
              rw [hval]
              refine ih (0 + 1) _ (by omega) (fun k h1 h2 => by rw [sup_obj h1]; exact f1 k h1 h2) (f2.to (sup_obj (by decide)) (sup_obj (by decide))) (fun t ht => by rw [sup_idx (by omega)]; exact f3 t ht) (fun t ht => ?_) (fun i hi t h1 h2 h3 => ?_)
              · by_cases e : t = 0
                · rw [e, sup_same]
                · rw [sup_idx (by omega)]
                  exact f4 t (by omega)
              · obtain ⟨R, z, g1, g2, g3⟩ : ∃ R z, SpV σ1 (8 + 2 * i) R z ∧ SpI p R (fl S t n) ∧ z = grk p (fl S t n) := by
                  exfalso
                  have h9 : 0 < 2 ^ i := Nat.two_pow_pos i
                  obtain rfl : t = 0 := by omega
                  rw [Nat.zero_mod] at h1
                  omega
                exact ⟨R, z, g1.to (sup_obj (by omega)) (sup_obj (by omega)), g2, g3⟩
        · skip
          have hs0 : s ≠ 0 := fun q => h31 (by rw [q]; rfl)
          obtain ⟨l1, l2, l3, l4, l5⟩ := lo2 hs0
          have hln : lowb s < n := by
            rcases Nat.lt_or_ge (lowb s) n with q | q
            · exact q
            · exact absurd (Nat.le_trans (Nat.pow_le_pow_right (by decide) q) l4) (by omega)
          have hand : nI s &&& (nI s - 1) = nI (s &&& (s - 1)) := by
            rw [show nI s - 1 = nI (s - 1) from i_sub (b := 1) (by omega), nx_and]
          have hta : s &&& (s - 1) < s := by have := Nat.two_pow_pos (lowb s); omega
          obtain ⟨t1, t2⟩ := low_ok (s &&& (s - 1)) (by omega)
          have hsrc : ∃ R z, SpV σ1 (8 + 2 * lowb (s &&& (s - 1))) R z ∧ SpI p R (fl S (s &&& (s - 1)) n) ∧ z = grk p (fl S (s &&& (s - 1)) n) := by
            by_cases e : s &&& (s - 1) = 0
            · rw [t1 e, e]
              refine ⟨_, _, f2, ?_⟩
              have e0 : fl S 0 n = [] := by
                cases h9 : fl S 0 n with
                | nil => rfl
                | cons a b =>
                  obtain ⟨j, -, h10, -⟩ := fl_mem.mp (show a ∈ fl S 0 n from by rw [h9]; exact List.mem_cons_self)
                  rw [Nat.zero_testBit] at h10
                  cases h10
              rw [e0]
              exact ⟨SpI_nil p, rfl⟩
            · obtain ⟨m1, m2, m3, m4, m5⟩ := t2 e
              have m6 := l5 e
              have m7 : 2 ^ lowb s < 2 ^ lowb (s &&& (s - 1)) := Nat.pow_lt_pow_right (by decide) m6
              have m8 : 2 ^ (lowb (s &&& (s - 1)) + 1) = 2 * 2 ^ lowb (s &&& (s - 1)) := by rw [Nat.pow_succ, Nat.mul_comm]
              refine f5 _ ?_ _ m2 hta (by omega)
              rcases Nat.lt_or_ge (lowb (s &&& (s - 1))) n with q | q
              · exact q
              · exact absurd (Nat.le_trans (Nat.pow_le_pow_right (by decide) q) m4) (by omega)
          have hu11 : lowb (s &&& (s - 1)) < 11 := by
            by_cases e : s &&& (s - 1) = 0
            · rw [t1 e]; decide
            · have := (t2 e).1; omega
          have hneq : lowb (s &&& (s - 1)) ≠ lowb s := by
            by_cases e : s &&& (s - 1) = 0
            · rw [t1 e]; omega
            · have := l5 e; omega
          obtain ⟨R0, z0, o1, o2, o3⟩ := hsrc
          refine e_aload_n dX6_extend_34 rfl 0 rfl ?_
          refine e_getR dX6_extend_35 lkX6_17 tt_5 rfl ?_
          refine e_iload dX6_extend_38 5 rfl ?_
          refine e_aald dX6_extend_40 tt_7 (Or.inr (Or.inr rfl)) (vp_in_nI (by omega) (by decide)) (by rw [i_cl (by omega)]; exact spans_at (by omega)) ?_
          refine e_aload_n dX6_extend_41 rfl 0 rfl ?_
          refine e_getR dX6_extend_42 lkX6_17 tt_5 rfl ?_
          refine e_iload dX6_extend_45 4 rfl ?_
          refine e_iload dX6_extend_47 4 rfl ?_
          refine e_iconst (v := 1) dX6_extend_49 rfl ?_
          refine e_isub dX6_extend_50 ?_
          refine e_iand dX6_extend_51 ?_
          rw [hand]
          refine e_callSi dX6_extend_52 cvX6_34 rfl (c6_leastOf (s := s &&& (s - 1)) (by omega)) (Nat.le_of_ble_eq_true rfl) (Nat.le_refl _) (Nat.le_refl _) rfl (Nat.le_of_ble_eq_true rfl) (fun r52 s52 m52 q52 => ?_)
          obtain ⟨q52, e52, g52⟩ := q52
          rw [e52, g52]
          clear e52 g52 s52 m52
          refine e_aald dX6_extend_55 tt_7 (Or.inr (Or.inr rfl)) (by rw [q52]; exact vp_in_nI hu11 (by decide)) (by rw [q52, i_cl (by omega)]; exact spans_at hu11) ?_
          refine e_callVv dX6_extend_56 cvX6_37 rfl (span_0 (span_k (show lowb s < 11 by omega))) rfl (c7_copyFrom (span_k (show lowb s < 11 by omega)) (span_k hu11) (by omega) (by omega) (by omega)) (Nat.le_of_ble_eq_true rfl) (Nat.le_refl _) (Nat.le_refl _) rfl (Nat.le_of_ble_eq_true rfl) (fun s56 m56 q56 => ?_)
          obtain ⟨c1, c2, c3⟩ := q56
          rw [c3]
          have hC9 := hC1.to hV (σ' := s56) (fun k h1 h2 => c2 k (by omega) (by omega))
          have hF9 := hF1.to (σ' := s56) (c2 1 (by omega) (by omega)) (c2 2 (by omega) (by omega))
          refine e_aload_n dX6_extend_59 rfl 0 rfl ?_
          refine e_getR dX6_extend_60 lkX6_17 tt_5 rfl ?_
          refine e_iload dX6_extend_63 5 rfl ?_
          refine e_aald dX6_extend_65 tt_7 (Or.inr (Or.inr rfl)) (vp_in_nI (by omega) (by decide)) (by rw [i_cl (by omega)]; exact spans_at (by omega)) ?_
          refine e_aload_n dX6_extend_66 rfl 1 rfl ?_
          refine e_getR dX6_extend_67 lkX6_41 (nodes_0 hN) rfl ?_
          refine e_iload dX6_extend_70 5 rfl ?_
          refine e_iald dX6_extend_72 (nodes_4 hN) (vp_in_nI (by omega) (by decide)) ?_

          rw [i_cl (by omega), (hC9.2.2.2.2.1 _ (by omega)).2.2.2.1]
          refine e_callVv dX6_extend_73 cvX6_44 rfl (span_0 (span_k (show lowb s < 11 by omega))) rfl (c7_take (span_k (show lowb s < 11 by omega)) (by omega) hp (w := S 5 (lowb s)) (hlt24 _ (by omega)) hF9 (c1 R0 z0 o1) o2 o3) (Nat.le_of_ble_eq_true rfl) (Nat.le_refl _) (Nat.le_refl _) rfl (Nat.le_of_ble_eq_true rfl) (fun s73 m73 q73 => ?_)
          obtain ⟨d1, d2, R, z, hSV, hI0, hz0⟩ := q73
          rw [d2]
          generalize s73 = σ2 at *
          have hmem : ∀ v, v ∈ S 5 (lowb s) :: fl S (s &&& (s - 1)) n ↔ v ∈ fl S s n := by
            intro v
            rw [List.mem_cons, fl_mem, fl_mem]
            constructor
            · rintro (rfl | ⟨j, h1, h2, h3⟩)
              · exact ⟨lowb s, hln, by rw [low_bit s hs10 hs0 _ (by omega)]; simp, rfl⟩
              · exact ⟨j, h1, by rw [low_bit s hs10 hs0 _ (by omega), h2]; rfl, h3⟩
            · rintro ⟨j, h1, h2, h3⟩
              rw [low_bit s hs10 hs0 _ (by omega)] at h2
              rcases Bool.or_eq_true_iff.mp h2 with h2 | h2
              · exact Or.inr ⟨j, h1, h2, h3⟩
              · have : j = lowb s := by simpa using h2
                subst this
                exact Or.inl h3
          have hI := SpI_congr hp hI0 (fun q _ => rfl) hmem
          have hz : z = grk p (fl S s n) := by rw [hz0]; exact grk_perm hp hI0.1 hI.1 hmem
          have k0 : ∀ i, i ≠ 8 + 2 * lowb s → i ≠ 8 + 2 * lowb s + 1 → σ2 i = σ1 i := fun i h1 h2 => by rw [d1 i h1 h2, c2 i h1 h2]
          have k1 : ∀ i, i ≠ 6 → (i < 8 ∨ 30 ≤ i) → σ2 i = σ i := fun i h1 h2 => by rw [k0 i (by omega) (by omega)]; exact f1 i h1 h2
          have k2 : SpV σ2 28 (fun _ => 0) 0 := f2.to (k0 28 (by omega) (by omega)) (k0 29 (by omega) (by omega))
          have k3 : ∀ t, t < 2 ^ n → σ2 6 t = nI (grk p (fl S t n)) := fun t ht => by rw [k0 6 (by omega) (by omega)]; exact f3 t ht
          have k4 : ∀ t, t < s → σ2 6 (t + 2 ^ n) = nI (grk p (fl S (t + 2 ^ n) (n + 1))) := fun t ht => by rw [k0 6 (by omega) (by omega)]; exact f4 t ht
          have k5 : ∀ i, i < n → ∀ t, t % 2 ^ (i + 1) = 2 ^ i → t < s + 1 → s + 1 ≤ t + 2 ^ (i + 1) → ∃ R z, SpV σ2 (8 + 2 * i) R z ∧ SpI p R (fl S t n) ∧ z = grk p (fl S t n) := by
            intro i hi t h1 h2 h3
            by_cases e : i = lowb s
            · subst e
              have hts : t = s := by
                have e1 : 2 ^ (lowb s + 1) = 2 * 2 ^ lowb s := by rw [Nat.pow_succ, Nat.mul_comm]
                have e2 := Nat.div_add_mod t (2 ^ (lowb s + 1))
                have e3 := Nat.div_add_mod s (2 ^ (lowb s + 1))
                rw [h1] at e2
                rw [l2] at e3
                have h4 : t ≤ s := by omega
                have h5 : s < t + 2 ^ (lowb s + 1) := by omega
                generalize 2 ^ (lowb s + 1) = B at *
                have h6 : t / B = s / B := by
                  rcases Nat.lt_trichotomy (t / B) (s / B) with q | q | q
                  · have := Nat.mul_le_mul_left B (show t / B + 1 ≤ s / B from q)
                    rw [Nat.mul_add, Nat.mul_one] at this
                    omega
                  · exact q
                  · have := Nat.mul_le_mul_left B (show s / B + 1 ≤ t / B from q)
                    rw [Nat.mul_add, Nat.mul_one] at this
                    omega
                rw [h6] at e2
                omega
              subst hts
              exact ⟨R, z, hSV, hI, hz⟩
            · have hne : t ≠ s := by
                intro q
                subst q
                -- the least of t is i
                have hb : ∀ t, t < 1024 → t ≠ 0 → ∀ i, i < 10 → t % 2 ^ (i + 1) = 2 ^ i → i = lowb t := by decide +kernel
                exact e (hb t hs10 hs0 i (by omega) h1)
              obtain ⟨R', z', g1, g2, g3⟩ := f5 i hi t h1 (by omega) (by omega)
              exact ⟨R', z', g1.to (k0 _ (by omega) (by omega)) (k0 _ (by omega) (by omega)), g2, g3⟩
          have hC2 := hC1.to hV (σ' := σ2) (fun k h1 h2 => k0 k (by omega) (by omega))
          have hF2 := hF1.to (σ' := σ2) (k0 1 (by omega) (by omega)) (k0 2 (by omega) (by omega))
          refine e_aload_n dX6_extend_76 rfl 0 rfl ?_
          refine e_getR dX6_extend_77 lkX6_17 tt_5 rfl ?_
          refine e_iload dX6_extend_80 5 rfl ?_
          refine e_aald dX6_extend_82 tt_7 (Or.inr (Or.inr rfl)) (vp_in_nI (by omega) (by decide)) (by rw [i_cl (by omega)]; exact spans_at (by omega)) ?_
          refine e_aload_n dX6_extend_83 rfl 1 rfl ?_
          refine e_getR dX6_extend_84 lkX6_41 (nodes_0 hN) rfl ?_
          refine e_iload_n dX6_extend_87 rfl 2 rfl ?_
          refine e_iald dX6_extend_88 (nodes_4 hN) (vp_in_nI (by omega) (by decide)) ?_
          rw [i_cl (by omega), (hC2.2.2.2.2.1 n (by omega)).2.2.2.1]
          refine e_callVi dX6_extend_89 cvX6_48 rfl (span_0 (span_k (show (lowb s) < 11 by omega))) rfl (c7_left (span_k (show (lowb s) < 11 by omega)) hp (w := S 5 n) (hlt24 n (by omega)) hF2 hI.2.1 hSV.1) (Nat.le_of_ble_eq_true rfl) (Nat.le_refl _) (Nat.le_refl _) rfl (Nat.le_of_ble_eq_true rfl) (fun r89 s89 m89 q89 => ?_)
          obtain ⟨q89, e89, g89⟩ := q89
          rw [e89, g89]
          clear e89 g89 s89 m89
          refine e_if_ne (t := 99) dX6_extend_92 (by decide) (fun h92 => ?_) (fun h92 => ?_)
          · skip
            have hsp : ¬ Sp p (fl S s n) (S 5 n) := fun q => h92 (by rw [q89, (lf_iff hp hI (hlt24 n (by omega))).mpr q]; rfl)
            refine e_iconst (v := 0) dX6_extend_99 rfl ?_
            refine e_istore [(0, .ref 5), (1, .ref o), (2, .int (nI n)), (3, .int (nI (2 ^ n))), (4, .int (nI s)), (5, .int (nI (lowb s))), (6, .int 0)] dX6_extend_100 (by decide) rfl ?_
            refine e_aload_n dX6_extend_102 rfl 0 rfl ?_
            refine e_getR dX6_extend_103 lkX6_9 tt_5 rfl ?_
            refine e_iload dX6_extend_106 4 rfl ?_
            refine e_iload_n dX6_extend_108 rfl 3 rfl ?_
            refine e_ior dX6_extend_109 ?_
            rw [hidx]
            refine e_aload_n dX6_extend_110 rfl 0 rfl ?_
            refine e_getR dX6_extend_111 lkX6_9 tt_5 rfl ?_
            refine e_iload dX6_extend_114 4 rfl ?_
            refine e_iald dX6_extend_116 tt_6 (vp_in_nI (by omega) (by decide)) ?_
            refine e_iload dX6_extend_117 6 rfl ?_
            refine e_if_eq (t := 126) dX6_extend_119 (by decide) (fun h119 => ?_) (fun h119 => ?_)
            · skip
              refine e_iconst (v := 1) dX6_extend_126 rfl ?_
              refine e_iadd dX6_extend_127 ?_
              refine e_iast dX6_extend_128 tt_6 (vp_in_nI (by omega) (by decide)) ?_
              refine e_iinc (nI (s + 1)) [(0, .ref 5), (1, .ref o), (2, .int (nI n)), (3, .int (nI (2 ^ n))), (4, .int (nI (s + 1))), (5, .int (nI (lowb s))), (6, .int 0)] dX6_extend_129 4 rfl (nI_1 s) (by decide) rfl ?_
              refine e_goto (t := 16) dX6_extend_132 (by decide) ?_
              refine e_lv [(0, .ref 5), (1, .ref o), (2, .int (nI n)), (3, .int (nI (2 ^ n))), (4, .int (nI (s + 1)))] (List.forall_mem_cons.mpr ⟨List.mem_of_getElem? (i := 0) rfl, List.forall_mem_cons.mpr ⟨List.mem_of_getElem? (i := 1) rfl, List.forall_mem_cons.mpr ⟨List.mem_of_getElem? (i := 2) rfl, List.forall_mem_cons.mpr ⟨List.mem_of_getElem? (i := 3) rfl, List.forall_mem_cons.mpr ⟨List.mem_of_getElem? (i := 4) rfl, fun _ h => absurd h List.not_mem_nil⟩⟩⟩⟩⟩) ?_
              rw [i_cl (by omega), i_cl (by omega)]
              have hval : σ2 6 s + 1 = nI (grk p (fl S (s + 2 ^ n) (n + 1))) := by
                rw [k3 s (by omega), fl_hi (by omega), grk_new hsp]
                exact i_add _ 1
              rw [hval]
              refine ih (s + 1) _ (by omega) (fun k h1 h2 => by rw [sup_obj h1]; exact k1 k h1 h2) (k2.to (sup_obj (by decide)) (sup_obj (by decide))) (fun t ht => by rw [sup_idx (by omega)]; exact k3 t ht) (fun t ht => ?_) (fun i hi t h1 h2 h3 => ?_)
              · by_cases e : t = s
                · rw [e, sup_same]
                · rw [sup_idx (by omega)]
                  exact k4 t (by omega)
              · obtain ⟨R, z, g1, g2, g3⟩ := k5 i hi t h1 h2 h3
                exact ⟨R, z, g1.to (sup_obj (by omega)) (sup_obj (by omega)), g2, g3⟩
            · skip
              exact absurd (rfl : (0 : Int32) = 0) h119
          · skip
            have hsp : Sp p (fl S s n) (S 5 n) := (lf_iff hp hI (hlt24 n (by omega))).mp ((i_eq (Nat.lt_of_lt_of_le (lf_lt hp _ _ (hlt24 n (by omega))) (by decide)) (by decide)).mp (show nI (lf p R 6 (S 5 n)) = nI 0 from by rw [← q89]; exact h92))
            refine e_iconst (v := 1) dX6_extend_95 rfl ?_
            refine e_goto (t := 100) dX6_extend_96 (by decide) ?_
            refine e_istore [(0, .ref 5), (1, .ref o), (2, .int (nI n)), (3, .int (nI (2 ^ n))), (4, .int (nI s)), (5, .int (nI (lowb s))), (6, .int 1)] dX6_extend_100 (by decide) rfl ?_
            refine e_aload_n dX6_extend_102 rfl 0 rfl ?_
            refine e_getR dX6_extend_103 lkX6_9 tt_5 rfl ?_
            refine e_iload dX6_extend_106 4 rfl ?_
            refine e_iload_n dX6_extend_108 rfl 3 rfl ?_
            refine e_ior dX6_extend_109 ?_
            rw [hidx]
            refine e_aload_n dX6_extend_110 rfl 0 rfl ?_
            refine e_getR dX6_extend_111 lkX6_9 tt_5 rfl ?_
            refine e_iload dX6_extend_114 4 rfl ?_
            refine e_iald dX6_extend_116 tt_6 (vp_in_nI (by omega) (by decide)) ?_
            refine e_iload dX6_extend_117 6 rfl ?_
            refine e_if_eq (t := 126) dX6_extend_119 (by decide) (fun h119 => ?_) (fun h119 => ?_)
            · skip
              exact absurd h119 (by decide)
            · skip
              refine e_iconst (v := 0) dX6_extend_122 rfl ?_
              refine e_goto (t := 127) dX6_extend_123 (by decide) ?_
              refine e_iadd dX6_extend_127 ?_
              refine e_iast dX6_extend_128 tt_6 (vp_in_nI (by omega) (by decide)) ?_
              refine e_iinc (nI (s + 1)) [(0, .ref 5), (1, .ref o), (2, .int (nI n)), (3, .int (nI (2 ^ n))), (4, .int (nI (s + 1))), (5, .int (nI (lowb s))), (6, .int 1)] dX6_extend_129 4 rfl (nI_1 s) (by decide) rfl ?_
              refine e_goto (t := 16) dX6_extend_132 (by decide) ?_
              refine e_lv [(0, .ref 5), (1, .ref o), (2, .int (nI n)), (3, .int (nI (2 ^ n))), (4, .int (nI (s + 1)))] (List.forall_mem_cons.mpr ⟨List.mem_of_getElem? (i := 0) rfl, List.forall_mem_cons.mpr ⟨List.mem_of_getElem? (i := 1) rfl, List.forall_mem_cons.mpr ⟨List.mem_of_getElem? (i := 2) rfl, List.forall_mem_cons.mpr ⟨List.mem_of_getElem? (i := 3) rfl, List.forall_mem_cons.mpr ⟨List.mem_of_getElem? (i := 4) rfl, fun _ h => absurd h List.not_mem_nil⟩⟩⟩⟩⟩) ?_
              rw [i_cl (by omega), i_cl (by omega)]
              have hval : σ2 6 s + 0 = nI (grk p (fl S (s + 2 ^ n) (n + 1))) := by
                rw [k3 s (by omega), fl_hi (by omega), grk_told hsp]
                exact i_add _ 0
              rw [hval]
              refine ih (s + 1) _ (by omega) (fun k h1 h2 => by rw [sup_obj h1]; exact k1 k h1 h2) (k2.to (sup_obj (by decide)) (sup_obj (by decide))) (fun t ht => by rw [sup_idx (by omega)]; exact k3 t ht) (fun t ht => ?_) (fun i hi t h1 h2 h3 => ?_)
              · by_cases e : t = s
                · rw [e, sup_same]
                · rw [sup_idx (by omega)]
                  exact k4 t (by omega)
              · obtain ⟨R, z, g1, g2, g3⟩ := k5 i hi t h1 h2 h3
                exact ⟨R, z, g1.to (sup_obj (by omega)) (sup_obj (by omega)), g2, g3⟩
  refine e_aload_n dX6_extend_0 rfl 1 rfl ?_
  refine e_iload_n dX6_extend_1 rfl 2 rfl ?_
  refine e_callVi dX6_extend_2 cvX6_28 rfl (nodes_0 hN) rfl (c3_has hN (nI n)) (Nat.le_of_ble_eq_true rfl) (Nat.le_refl _) (Nat.le_refl _) rfl (Nat.le_of_ble_eq_true rfl) (fun r2 s2 m2 q2 => ?_)
  obtain ⟨q2, e2, g2⟩ := q2
  rw [e2, g2]
  clear e2 g2 s2 m2
  refine e_if_ne (t := 9) dX6_extend_5 (by decide) (fun h5 => ?_) (fun h5 => ?_)
  · skip
    refine e_iconst (v := 1) dX6_extend_9 rfl ?_
    refine e_iload_n dX6_extend_10 rfl 2 rfl ?_
    refine e_ishl dX6_extend_11 ?_
    rw [hbit]
    refine e_istore_n [(0, .ref 5), (1, .ref o), (2, .int (nI n)), (3, .int (nI (2 ^ n)))] dX6_extend_12 rfl (by decide) rfl ?_
    refine e_iconst (v := 0) dX6_extend_13 rfl ?_
    refine e_istore [(0, .ref 5), (1, .ref o), (2, .int (nI n)), (3, .int (nI (2 ^ n))), (4, .int 0)] dX6_extend_14 (by decide) rfl ?_
    exact loop (2 ^ n) 0 σ (by omega) (fun _ _ _ => rfl) h28 hK (fun t ht => absurd ht (by omega)) (fun i hi t h1 h2 => absurd h2 (by omega))
  · skip
    exact absurd (by rw [q2]; exact bI_t ⟨i_nn (by omega), by rw [hC.1]; exact (i_lt (by omega) (by omega)).mpr (by omega)⟩) (fun z : r2 = 1 => absurd (h5.symm.trans z) (by decide))
