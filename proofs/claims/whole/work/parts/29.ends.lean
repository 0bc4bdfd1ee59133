theorem nI_1' (n : Nat) : nI n + 1 = nI (n + 1) := nI_1 n
noncomputable def nstep (p : Nat) (S : ns_T) (w x : Nat) : ns_T × Nat := if w = 0 then (nlos S x, 0) else if w = 2 then (nup S 2 x 0, 0) else (naft S x (nbk p S x), ((nbk p S x).map (ncs S)).getD 0)
noncomputable def nplay (p : Nat) (S0 : ns_T) : Nat → Nat → ns_T → Nat → ns_T × Nat
  | 0, _, S, a => (S, a)
  | m + 1, i, S, a => nplay p S0 m (i + 1) (nstep p S (S0 14 i) (S0 15 i)).1 (a + (nstep p S (S0 14 i) (S0 15 i)).2)
noncomputable def nends (p : Nat) (S : ns_T) (w : Int32) : Int32 := cif (w = 0 ∨ w = 1) (if w = 0 then nI ((nplay p S (S 13 0) 0 S 0).1 0 3) else nI (nplay p S (S 13 0) 0 S 0).2) (-1)
theorem nstep_0 {p : Nat} {S : ns_T} {x : Nat} : nstep p S 0 x = (nlos S x, 0) := if_pos rfl
theorem nstep_2 {p : Nat} {S : ns_T} {x : Nat} : nstep p S 2 x = (nup S 2 x 0, 0) := (if_neg (by decide)).trans (if_pos rfl)
theorem nstep_1 {p : Nat} {S : ns_T} {x : Nat} : nstep p S 1 x = (naft S x (nbk p S x), ((nbk p S x).map (ncs S)).getD 0) := (if_neg (by decide)).trans (if_neg (by decide))
theorem VS.v0 {S : ns_T} (hV : VS S) {k : Nat} : VS (nup S 2 k 0) := by
  have e : ∀ t i, t ≠ 2 → nup S 2 k 0 t i = S t i := fun t i h => nup_ne (by omega)
  refine hV.mk' (e _ _ (by decide)) (e _ _ (by decide)) (e _ _ (by decide)) (by rw [e _ _ (by decide)]; exact hV.2.2.2.2.2.1) (fun j hj => ?_) (fun e' he => ⟨e _ _ (by decide), by rw [e _ _ (by decide)]; exact (hV.2.2.2.2.2.2.2 e' he).2.2.1⟩)
  obtain ⟨u1, u2, u3, u4, u5, -⟩ := hV.2.2.2.2.2.2.1 j hj
  refine ⟨e _ _ (by decide), ?_, by rw [e _ _ (by decide)]; exact u3, e _ _ (by decide), e _ _ (by decide), fun r hr => by rw [e _ _ (by omega)]; exact u5 r hr⟩
  by_cases e2 : j = k
  · rw [e2, nup_same]
    omega
  · rw [nup_ne (by omega)]
    exact u2
theorem NC.v0 {σ : ex_S} {b : Nat} {S : ns_T} (hV : VS S) (hC : NC σ b S) {k : Nat} : NC (sup σ (b + 2) k 0) b (nup S 2 k 0) := by
  have hn := hV.1
  have hd := hV.2.1
  have e : ∀ t i, t ≠ 2 → nup S 2 k 0 t i = S t i := fun t i h => nup_ne (by omega)
  obtain ⟨n1, n2, n3, n4, n5, n6⟩ := hC
  unfold NC
  rw [e _ _ (by decide), e _ _ (by decide), e _ _ (by decide), e _ _ (by decide), sup_obj (by omega)]
  refine ⟨n1, n2, n3, n4, fun j hj => ?_, fun e' he => ?_⟩
  · obtain ⟨a1, a2, a3, a4, a5, a6⟩ := n5 j hj
    rw [e 1 _ (by decide), e 3 _ (by decide), e 5 _ (by decide), e 4 _ (by decide), sup_obj (show b + 1 ≠ b + 2 by omega), sup_obj (show b + 3 ≠ b + 2 by omega), sup_obj (show b + 4 ≠ b + 2 by omega), sup_obj (show b + 5 ≠ b + 2 by omega), sup_obj (show b + 7 + j ≠ b + 2 by omega)]
    refine ⟨a1, ?_, a3, a4, a5, fun r hr => by rw [e _ _ (by omega)]; exact a6 r hr⟩
    by_cases e2 : j = k
    · rw [e2, nup_same, sup_same]
      rfl
    · rw [nup_ne (by omega), sup_idx e2]
      exact a2
  · rw [e _ _ (by decide), e _ _ (by decide), sup_obj (by omega), sup_obj (by omega)]
    exact n6 e' he
theorem NR.v0 {σ : ex_S} {S : ns_T} (hR : NR σ S) {k : Nat} : NR (sup σ 132 k 0) (nup S 2 k 0) := by
  have e : ∀ t i, t ≠ 2 → nup S 2 k 0 t i = S t i := fun t i h => nup_ne (by omega)
  obtain ⟨n1, n2, n3, n4, n5⟩ := hR
  unfold NR
  rw [e _ _ (by decide), e _ _ (by decide), e _ _ (by decide), sup_obj (show (127 : Nat) ≠ 132 by decide), sup_obj (show (131 : Nat) ≠ 132 by decide), sup_obj (show (133 : Nat) ≠ 132 by decide), sup_obj (show (134 : Nat) ≠ 132 by decide), sup_obj (show (135 : Nat) ≠ 132 by decide), sup_obj (show (136 : Nat) ≠ 132 by decide), sup_obj (show (137 : Nat) ≠ 132 by decide), sup_obj (show (138 : Nat) ≠ 132 by decide), sup_obj (show (139 : Nat) ≠ 132 by decide)]
  refine ⟨n1, n2, n3, fun j hj => ?_, fun e' he => ?_⟩
  · obtain ⟨a1, a2, a3, a4, a5, a6, a7⟩ := n4 j hj
    rw [e 1 _ (by decide), e 3 _ (by decide), e 5 _ (by decide), e 4 _ (by decide)]
    refine ⟨a1, ?_, a3, a4, a5, a6, fun r hr => by rw [e _ _ (by omega)]; exact a7 r hr⟩
    by_cases e2 : j = k
    · rw [e2, nup_same, sup_same]
      rfl
    · rw [nup_ne (by omega), sup_idx e2]
      exact a2
  · rw [e _ _ (by decide), e _ _ (by decide)]
    exact n5 e' he
/-- a step leaves how many nodes there are, and their forms -/
theorem nstep_ok {p : Nat} {S : ns_T} (hV : VS S) {w x : Nat} (hx : x < S 0 0) : VS (nstep p S w x).1 ∧ (nstep p S w x).1 0 0 = S 0 0 ∧ (∀ j, (nstep p S w x).1 5 j = S 5 j) ∧ (nstep p S w x).2 ≤ 400 := by
  unfold nstep
  split
  · exact ⟨hV.los hx, nlos_e (S := S) (k := x) (t := 0) (i := 0) (by decide), fun j => nlos_e (S := S) (k := x) (t := 5) (i := j) (by omega), Nat.zero_le _⟩
  · split
    · exact ⟨hV.v0, nup_ne (S := S) (t := 2) (k := x) (v := 0) (t' := 0) (k' := 0) (by omega), fun j => nup_ne (S := S) (t := 2) (k := x) (v := 0) (t' := 5) (k' := j) (by omega), Nat.zero_le _⟩
    · refine ⟨hV.aft _ _, naft_0 (by decide), fun j => ?_, ?_⟩
      · cases nbk p S x with
        | none => rfl
        | some t => exact nrep_ne (S := S) (j := x) (t := t) (a := 5) (k := j) (by omega) (by omega)
      · cases nbk p S x with
        | none => exact Nat.zero_le _
        | some t => exact ncs_le hV t
theorem mx_hI {o : Option Nat} (h : ∀ t, o = some t → t < 2 ^ 31) : (if (0 : Int32) < hI o then hI o else 0) = nI (o.getD 0) := by
  cases o with
  | none => decide
  | some t =>
    have ht := h t rfl
    show (if (0 : Int32) < nI t then nI t else 0) = nI t
    by_cases e : t = 0
    · rw [e]; decide
    · rw [if_pos (show (0 : Int32) < nI t from (i_lt (a := 0) (by decide) ht).mpr (by omega))]
theorem w3 {w : Nat} (h : w ≤ 2) : w = 0 ∨ w = 1 ∨ w = 2 := by omega

set_option maxRecDepth 100000 in
theorem c10_playStep {p : Nat} (hp : gP p) {S : ns_T} (hV : VS S) {w x : Nat} (hw : w ≤ 2) (hx : x < S 0 0) {σ : ex_S} {μ : ex_L}(hC : NC σ 90 S) (hK : RKI σ p S) (h0 : σ 31 0 = 0) : Ci 9 yX10_playStep cX10_playStep 3 (some .int) [.ref 0, .int (nI w), .int (nI x)] TT σ μ (fun z' σ' μ' => z' = nI (nstep p S w x).2 ∧ NC σ' 90 (nstep p S w x).1 ∧ (∀ i, i ≠ 31 → (i < 90 ∨ 109 ≤ i) → σ' i = σ i) ∧ σ' 31 0 = 0 ∧ μ' = μ) := by
  refine Cl_of (by decide +kernel) (Nat.le_of_ble_eq_true rfl) ?_
  show Ev RX10 cX10_playStep 3 9 0 0 "playStep" (some .int) ev_ext _ _ 0 0 0 [(0, .ref 0), (1, .int (nI w)), (2, .int (nI x))] [] TT σ μ
  have hn := hV.1
  refine e_aload_n dX10_playStep_0 rfl 0 rfl ?_
  refine e_getR dX10_playStep_1 lkX10_60 tt_0 rfl ?_
  refine e_iload_n dX10_playStep_4 rfl 2 rfl ?_
  refine e_callVi dX10_playStep_5 cvX10_165 rfl (nodes_0 nodes_90_) rfl (c3_hasN nodes_90_ hC (nI x)) (Nat.le_of_ble_eq_true rfl) (Nat.le_refl _) (Nat.le_refl _) rfl (Nat.le_of_ble_eq_true rfl) (fun r5 s5 m5 q5 => ?_)
  obtain ⟨q5, e5, g5⟩ := q5
  rw [e5, g5]
  clear e5 g5 s5 m5
  refine e_if_ne (t := 13) dX10_playStep_8 (by decide) (fun h8 => ?_) (fun h8 => ?_)
  · skip
    refine e_iload_n dX10_playStep_13 rfl 1 rfl ?_
    refine e_iconst (v := 1) dX10_playStep_14 rfl ?_
    refine e_icmp_ne (t := 35) dX10_playStep_15 (by decide) (fun h15 => ?_) (fun h15 => ?_)
    · skip
      refine e_iload_n dX10_playStep_35 rfl 1 rfl ?_
      refine e_if_ne (t := 57) dX10_playStep_36 (by decide) (fun h36 => ?_) (fun h36 => ?_)
      · skip
        have hw2 : w = 2 := by
          rcases w3 hw with rfl | rfl | rfl
          · exact absurd rfl h36
          · exact absurd rfl h15
          · rfl
        subst hw2
        refine e_aload_n dX10_playStep_57 rfl 0 rfl ?_
        refine e_getR dX10_playStep_58 lkX10_60 tt_0 rfl ?_
        refine e_getR dX10_playStep_61 lkX10_175 (nodes_0 nodes_90_) rfl ?_
        refine e_iload_n dX10_playStep_64 rfl 2 rfl ?_
        refine e_iconst (v := 0) dX10_playStep_65 rfl ?_
        refine e_iast dX10_playStep_66 (nodes_2 nodes_90_) (vp_in_nI (by omega) (by decide)) ?_
        refine e_iconst (v := 0) dX10_playStep_67 rfl ?_
        refine e_reti dX10_playStep_68 ev_nwi (Nat.le_refl _) (Nat.le_refl _) ?_
        skip
        first
          | (rw [nstep_0]
             exact ⟨rfl, hC.los, fun i h1 h2 => sup_obj (by omega), by rw [sup_obj (by decide)]; exact h0, rfl⟩)
          | (rw [nstep_2, i_cl (show x < 2 ^ 31 by omega)]
             exact ⟨rfl, hC.v0 hV, fun i h1 h2 => sup_obj (by omega), by rw [sup_obj (by decide)]; exact h0, rfl⟩)
      · skip
        obtain rfl : w = 0 := (i_eq (a := w) (b := 0) (by omega) (by decide)).mp h36
        refine e_aload_n dX10_playStep_39 rfl 0 rfl ?_
        refine e_getR dX10_playStep_40 lkX10_60 tt_0 rfl ?_
        refine e_dup dX10_playStep_43 rfl ?_
        refine e_getI dX10_playStep_44 lkX10_229 (nodes_0 nodes_90_) rfl ?_
        rw [hC.2.2.2.1]
        refine e_iconst (v := 1) dX10_playStep_47 rfl ?_
        refine e_iload_n dX10_playStep_48 rfl 2 rfl ?_
        refine e_ishl dX10_playStep_49 ?_
        refine e_ior dX10_playStep_50 ?_
        rw [i_shl1 (by omega), fa_or]
        refine e_putI dX10_playStep_51 lkX10_229' (nodes_0 nodes_90_) rfl rfl rfl ?_
        refine e_goto (t := 67) dX10_playStep_54 (by decide) ?_
        refine e_iconst (v := 0) dX10_playStep_67 rfl ?_
        refine e_reti dX10_playStep_68 ev_nwi (Nat.le_refl _) (Nat.le_refl _) ?_
        skip
        first
          | (rw [nstep_0]
             exact ⟨rfl, hC.los, fun i h1 h2 => sup_obj (by omega), by rw [sup_obj (by decide)]; exact h0, rfl⟩)
          | (rw [nstep_2, i_cl (show x < 2 ^ 31 by omega)]
             exact ⟨rfl, hC.v0 hV, fun i h1 h2 => sup_obj (by omega), by rw [sup_obj (by decide)]; exact h0, rfl⟩)
    · skip
      obtain rfl : w = 1 := (i_eq (a := w) (b := 1) (by omega) (by decide)).mp h15
      refine e_iconst (v := 0) dX10_playStep_18 rfl ?_
      refine e_aload_n dX10_playStep_19 rfl 0 rfl ?_
      refine e_getR dX10_playStep_20 lkX10_39 tt_0 rfl ?_
      refine e_aload_n dX10_playStep_23 rfl 0 rfl ?_
      refine e_getR dX10_playStep_24 lkX10_60 tt_0 rfl ?_
      refine e_iload_n dX10_playStep_27 rfl 2 rfl ?_
      refine e_callVi dX10_playStep_28 cvX10_232 rfl tt_30 rfl (c2_bringBack nodes_90_ (by decide) hp hV hx hC hK h0) (Nat.le_of_ble_eq_true rfl) (Nat.le_refl _) (Nat.le_refl _) rfl (Nat.le_of_ble_eq_true rfl) (fun r28 s28 m28 q28 => ?_)
      obtain ⟨q28, a1, a2, a3, a4⟩ := q28
      rw [a4]
      rw [q28]
      refine e_mmax dX10_playStep_31 cvX10_339 (Nat.le_of_ble_eq_true rfl) (Nat.le_of_ble_eq_true rfl) (Nat.le_refl _) (Nat.le_refl _) ?_
      refine e_reti dX10_playStep_34 ev_nwi (Nat.le_refl _) (Nat.le_refl _) ?_
      rw [nstep_1]
      exact ⟨mx_hI (fun t ht => by
            cases h9 : nbk p S x with
            | none => rw [h9] at ht; cases ht
            | some t9 =>
              rw [h9] at ht
              cases ht
              exact Nat.lt_of_le_of_lt (ncs_le hV t9) (by decide)), a1, a2, a3, rfl⟩
  · skip
    rw [q5] at h8
    exact absurd (nhas hV hx) (bI_eq0.mp h8)

set_option maxRecDepth 100000 in
theorem c10_ends {p : Nat} (hp : gP p) {S : ns_T} (hV : VS S) (hU : PSV S) {w : Int32} {σ : ex_S} {μ : ex_L}(hC : NC σ 33 S) (hK : RKI σ p S) (hG : PG σ 55 S 13) (h0 : σ 31 0 = 0) : Ci 10 yX10_ends cX10_ends 4 (some .int) [.ref 0, .int w] TT σ μ (fun z' σ' μ' => z' = nends p S w ∧ (∀ i, i ≠ 31 → (i < 90 ∨ 109 ≤ i) → σ' i = σ i) ∧ σ' 31 0 = 0 ∧ μ' = μ) := by
  refine Cl_of (by decide +kernel) (Nat.le_of_ble_eq_true rfl) ?_
  show Ev RX10 cX10_ends 4 10 0 0 "ends" (some .int) ev_ext _ _ 0 0 0 [(0, .ref 0), (1, .int w)] [] TT σ μ
  have hn := hV.1
  obtain ⟨-, hz, -, -, hU2, -⟩ := hU
  have loop : (w = 0 ∨ w = 1) → ∀ (m i a : Nat) (S1 : ns_T) (σ1 : ex_S), i + m = S 13 0 → VS S1 → S1 0 0 = S 0 0 → (∀ j, S1 5 j = S 5 j) → NC σ1 90 S1 → (∀ i, i ≠ 31 → (i < 90 ∨ 109 ≤ i) → σ1 i = σ i) → σ1 31 0 = 0 → a ≤ 400 * i → nplay p S m i S1 a = nplay p S (S 13 0) 0 S 0 → Ev RX10 cX10_ends 4 10 0 0 "ends" (some .int) ev_ext TT.length (fun v9 T9 σ9 μ9 => T9 = TT ∧ ∃ z9, v9 = some (.int z9) ∧ (fun z' σ' μ' => z' = nends p S w ∧ (∀ i, i ≠ 31 → (i < 90 ∨ 109 ≤ i) → σ' i = σ i) ∧ σ' 31 0 = 0 ∧ μ' = μ) z9 σ9 μ9) 0 0 29 [(0, .ref 0), (1, .int w), (2, .int (nI a)), (3, .int (nI i))] [] TT σ1 μ := by
    intro hw m
    induction m with
    | zero =>
      intro i a S1 σ1 hi v1 v2 v3 v4 v5 v6 v7 v8
      obtain rfl : i = S 13 0 := by omega
      have he : (S1, a) = nplay p S (S 13 0) 0 S 0 := v8
      refine e_iload_n dX10_ends_29 rfl 3 rfl ?_
      refine e_aload_n dX10_ends_30 rfl 0 rfl ?_
      refine e_getR dX10_ends_31 lkX10_46 tt_0 rfl ?_
      refine e_getR dX10_ends_34 lkX10_329 (store_0 store_32_) rfl ?_
      refine e_getI dX10_ends_37 lkX10_280 (pairs_0 (store_p2 store_32_)) rfl ?_
      rw [v5 55 (by decide) (by decide), hG.1]
      refine e_icmp_ge (t := 80) dX10_ends_40 (by decide) (fun h40 => ?_) (fun h40 => ?_)
      · skip
        refine e_iload_n dX10_ends_80 rfl 1 rfl ?_
        refine e_if_ne (t := 94) dX10_ends_81 (by decide) (fun h81 => ?_) (fun h81 => ?_)
        · skip
          skip
          refine e_iload_n dX10_ends_94 rfl 2 rfl ?_
          refine e_reti dX10_ends_95 ev_nwi (Nat.le_refl _) (Nat.le_refl _) ?_
          have hr : nends p S w = nI a := by
            unfold nends
            rw [cif_t hw, if_neg h81, ← he]
          rw [hr]
          exact ⟨rfl, v5, v6, rfl⟩
        · skip
          skip
          refine e_aload_n dX10_ends_84 rfl 0 rfl ?_
          refine e_getR dX10_ends_85 lkX10_60 tt_0 rfl ?_
          refine e_getI dX10_ends_88 lkX10_229 (nodes_0 nodes_90_) rfl ?_
          refine e_goto (t := 95) dX10_ends_91 (by decide) ?_
          refine e_reti dX10_ends_95 ev_nwi (Nat.le_refl _) (Nat.le_refl _) ?_
          have hr : nends p S w = nI (S1 0 3) := by
            unfold nends
            rw [cif_t hw, if_pos h81, ← he]
          rw [hr]
          exact ⟨v4.2.2.2.1, v5, v6, rfl⟩
      · skip
        exact absurd (show nI (S 13 0) ≤ nI (S 13 0) from (i_le (by omega) (by omega)).mpr (by omega)) h40
    | succ m ih =>
      intro i a S1 σ1 hi v1 v2 v3 v4 v5 v6 v7 v8
      obtain ⟨g1, g2⟩ := hG.2 i (by omega)
      obtain ⟨w1, w2⟩ := hU2 i (by omega)
      have hK1 : RKI σ1 p S1 := (hK.los v2 (fun j _ => v3 j)).to (v5 6 (by decide) (by decide))
      obtain ⟨k1, k2, k3, k4⟩ := nstep_ok (p := p) v1 (w := S 14 i) (x := S 15 i) (by omega)
      refine e_iload_n dX10_ends_29 rfl 3 rfl ?_
      refine e_aload_n dX10_ends_30 rfl 0 rfl ?_
      refine e_getR dX10_ends_31 lkX10_46 tt_0 rfl ?_
      refine e_getR dX10_ends_34 lkX10_329 (store_0 store_32_) rfl ?_
      refine e_getI dX10_ends_37 lkX10_280 (pairs_0 (store_p2 store_32_)) rfl ?_
      rw [v5 55 (by decide) (by decide), hG.1]
      refine e_icmp_ge (t := 80) dX10_ends_40 (by decide) (fun h40 => ?_) (fun h40 => ?_)
      · skip
        exact absurd ((i_le (by omega) (by omega)).mp (show nI (S 13 0) ≤ nI i from h40)) (by omega)
      · skip
        refine e_iload_n dX10_ends_43 rfl 2 rfl ?_
        refine e_aload_n dX10_ends_44 rfl 0 rfl ?_
        refine e_aload_n dX10_ends_45 rfl 0 rfl ?_
        refine e_getR dX10_ends_46 lkX10_46 tt_0 rfl ?_
        refine e_getR dX10_ends_49 lkX10_329 (store_0 store_32_) rfl ?_
        refine e_getR dX10_ends_52 lkX10_299 (pairs_0 (store_p2 store_32_)) rfl ?_
        refine e_iload_n dX10_ends_55 rfl 3 rfl ?_
        refine e_iald dX10_ends_56 (pairs_1 (store_p2 store_32_)) (vp_in_nI (by omega) (by decide)) ?_
        rw [v5 56 (by decide) (by decide), i_cl (show i < 2 ^ 31 by omega), show σ 56 i = nI (S 14 i) from g1]
        refine e_aload_n dX10_ends_57 rfl 0 rfl ?_
        refine e_getR dX10_ends_58 lkX10_46 tt_0 rfl ?_
        refine e_getR dX10_ends_61 lkX10_329 (store_0 store_32_) rfl ?_
        refine e_getR dX10_ends_64 lkX10_305 (pairs_0 (store_p2 store_32_)) rfl ?_
        refine e_iload_n dX10_ends_67 rfl 3 rfl ?_
        refine e_iald dX10_ends_68 (pairs_2 (store_p2 store_32_)) (vp_in_nI (by omega) (by decide)) ?_
        rw [v5 57 (by decide) (by decide), i_cl (show i < 2 ^ 31 by omega), show σ 57 i = nI (S 15 i) from g2]
        refine e_callVi dX10_ends_69 cvX10_336 rfl tt_0 rfl (c10_playStep hp v1 w1 (show S 15 i < S1 0 0 by omega) v4 hK1 v6) (Nat.le_of_ble_eq_true rfl) (Nat.le_refl _) (Nat.le_refl _) rfl (Nat.le_of_ble_eq_true rfl) (fun r69 s69 m69 q69 => ?_)
        obtain ⟨q69, a1, a2, a3, a4⟩ := q69
        rw [a4]
        rw [q69]
        refine e_iadd dX10_ends_72 ?_
        rw [i_add]
        refine e_istore_n [(0, .ref 0), (1, .int w), (2, .int (nI (a + (nstep p S1 (S 14 i) (S 15 i)).2))), (3, .int (nI i))] dX10_ends_73 rfl (by decide) rfl ?_
        refine e_iinc (nI (i + 1)) [(0, .ref 0), (1, .int w), (2, .int (nI (a + (nstep p S1 (S 14 i) (S 15 i)).2))), (3, .int (nI (i + 1)))] dX10_ends_74 3 rfl (nI_1 i) (by decide) rfl ?_
        refine e_goto (t := 29) dX10_ends_77 (by decide) ?_
        exact ih (i + 1) _ _ s69 (by omega) k1 (k2.trans v2) (fun j => (k3 j).trans (v3 j)) a1 (fun k h1 h2 => by rw [a2 k h1 h2]; exact v5 k h1 h2) a3 (by omega) v8
  refine e_iload_n dX10_ends_0 rfl 1 rfl ?_
  refine e_if_eq (t := 11) dX10_ends_1 (by decide) (fun h1 => ?_) (fun h1 => ?_)
  · skip
    skip
    refine e_aload_n dX10_ends_11 rfl 0 rfl ?_
    refine e_getR dX10_ends_12 lkX10_60 tt_0 rfl ?_
    refine e_aload_n dX10_ends_15 rfl 0 rfl ?_
    refine e_getR dX10_ends_16 lkX10_46 tt_0 rfl ?_
    refine e_getR dX10_ends_19 lkX10_89 (store_0 store_32_) rfl ?_
    refine e_callVv dX10_ends_22 cvX10_332 rfl (nodes_0 nodes_90_) rfl (c3_copyFrom nodes_90_ nodes_33_ (by decide)) (Nat.le_of_ble_eq_true rfl) (Nat.le_refl _) (Nat.le_refl _) rfl (Nat.le_of_ble_eq_true rfl) (fun s22 m22 q22 => ?_)
    obtain ⟨p0, f0, g0⟩ := q22
    rw [g0]
    refine e_iconst (v := 0) dX10_ends_25 rfl ?_
    refine e_istore_n [(0, .ref 0), (1, .int w), (2, .int (nI 0))] dX10_ends_26 rfl (by decide) rfl ?_
    refine e_iconst (v := 0) dX10_ends_27 rfl ?_
    refine e_istore_n [(0, .ref 0), (1, .int w), (2, .int (nI 0)), (3, .int (nI 0))] dX10_ends_28 rfl (by decide) rfl ?_
    exact loop (Or.inl h1) (S 13 0) 0 0 S s22 (by omega) hV rfl (fun _ => rfl) (p0 S hV hC) (fun i h1 h2 => f0 i h2) (by rw [f0 31 (by decide)]; exact h0) (by omega) rfl
  · skip
    refine e_iload_n dX10_ends_4 rfl 1 rfl ?_
    refine e_iconst (v := 1) dX10_ends_5 rfl ?_
    refine e_icmp_eq (t := 11) dX10_ends_6 (by decide) (fun h6 => ?_) (fun h6 => ?_)
    · skip
      skip
      refine e_aload_n dX10_ends_11 rfl 0 rfl ?_
      refine e_getR dX10_ends_12 lkX10_60 tt_0 rfl ?_
      refine e_aload_n dX10_ends_15 rfl 0 rfl ?_
      refine e_getR dX10_ends_16 lkX10_46 tt_0 rfl ?_
      refine e_getR dX10_ends_19 lkX10_89 (store_0 store_32_) rfl ?_
      refine e_callVv dX10_ends_22 cvX10_332 rfl (nodes_0 nodes_90_) rfl (c3_copyFrom nodes_90_ nodes_33_ (by decide)) (Nat.le_of_ble_eq_true rfl) (Nat.le_refl _) (Nat.le_refl _) rfl (Nat.le_of_ble_eq_true rfl) (fun s22 m22 q22 => ?_)
      obtain ⟨p0, f0, g0⟩ := q22
      rw [g0]
      refine e_iconst (v := 0) dX10_ends_25 rfl ?_
      refine e_istore_n [(0, .ref 0), (1, .int w), (2, .int (nI 0))] dX10_ends_26 rfl (by decide) rfl ?_
      refine e_iconst (v := 0) dX10_ends_27 rfl ?_
      refine e_istore_n [(0, .ref 0), (1, .int w), (2, .int (nI 0)), (3, .int (nI 0))] dX10_ends_28 rfl (by decide) rfl ?_
      exact loop (Or.inr h6) (S 13 0) 0 0 S s22 (by omega) hV rfl (fun _ => rfl) (p0 S hV hC) (fun i h1 h2 => f0 i h2) (by rw [f0 31 (by decide)]; exact h0) (by omega) rfl
    · skip
      refine e_iconst (v := (-1)) dX10_ends_9 rfl ?_
      refine e_reti dX10_ends_10 ev_nwi (Nat.le_refl _) (Nat.le_refl _) ?_
      have hno : ¬ (w = 0 ∨ w = 1) := fun q => q.elim h1 h6
      have hr : nends p S w = -1 := cif_f hno
      rw [hr]
      exact ⟨rfl, fun _ _ _ => rfl, h0, rfl⟩

set_option maxRecDepth 100000 in
theorem c11_ends {p : Nat} (hp : gP p) {S : ns_T} (hV : VS S) (hU : PSV S) {w : Int32} {σ : ex_S} {μ : ex_L}(hF : FR σ p) (hR : NR σ S) (hG : PH σ 25 144 S 13) : Ci 11 yX11_ends cX11_ends 5 (some .int) [.ref 127, .int w] TT σ μ (fun z' σ' μ' => z' = nends p S w ∧ (∀ q, q < 202 → wim σ' q = wim σ q) ∧ (∀ i, ¬ (i = 127 ∨ (131 ≤ i ∧ i ≤ 139) ∨ (142 ≤ i ∧ i ≤ 147) ∨ i = 149 ∨ i = 150) → σ' i = σ i) ∧ (∀ k, k ≠ 5 → k ≠ 6 → k ≠ 7 → k ≠ 22 → k ≠ 25 → k ≠ 28 → (k < 35 ∨ 37 < k) → σ' 127 k = σ 127 k) ∧ μ' = μ) := by
  refine Cl_of (by decide +kernel) (Nat.le_of_ble_eq_true rfl) ?_
  show Ev RX11 cX11_ends 5 11 0 0 "ends" (some .int) ev_ext _ _ 0 0 0 [(0, .ref 127), (1, .int w)] [] TT σ μ
  have hn := hV.1
  obtain ⟨-, hz, -, -, hU2, -⟩ := hU
  have loop : (w = 0 ∨ w = 1) → ∀ (m i a : Nat) (S1 : ns_T) (σ1 : ex_S), i + m = S 13 0 → VS S1 → S1 0 0 = S 0 0 → NR σ1 S1 → (∀ i, i ≠ 127 → i ≠ 132 → i ≠ 134 → i ≠ 135 → i ≠ 149 → i ≠ 150 → σ1 i = σ i) → (∀ k, k < 35 ∨ 37 < k → σ1 127 k = σ 127 k) → (∀ q, q < 202 → σ1 149 q = wim σ q) → a ≤ 400 * i → nplay p S m i S1 a = nplay p S (S 13 0) 0 S 0 → Ev RX11 cX11_ends 5 11 0 0 "ends" (some .int) ev_ext TT.length (fun v9 T9 σ9 μ9 => T9 = TT ∧ ∃ z9, v9 = some (.int z9) ∧ (fun z' σ' μ' => z' = nends p S w ∧ (∀ q, q < 202 → wim σ' q = wim σ q) ∧ (∀ i, ¬ (i = 127 ∨ (131 ≤ i ∧ i ≤ 139) ∨ (142 ≤ i ∧ i ≤ 147) ∨ i = 149 ∨ i = 150) → σ' i = σ i) ∧ (∀ k, k ≠ 5 → k ≠ 6 → k ≠ 7 → k ≠ 22 → k ≠ 25 → k ≠ 28 → (k < 35 ∨ 37 < k) → σ' 127 k = σ 127 k) ∧ μ' = μ) z9 σ9 μ9) 0 0 23 [(0, .ref 127), (1, .int w), (2, .int (nI a)), (3, .int (nI i))] [] TT σ1 μ := by
    intro hw m
    induction m with
    | zero =>
      intro i a S1 σ1 hi v1 v2 v3 v4 v5 v6 v7 v8
      obtain rfl : i = S 13 0 := by omega
      have he : (S1, a) = nplay p S (S 13 0) 0 S 0 := v8
      refine e_iload_n dX11_ends_23 rfl 3 rfl ?_
      refine e_aload_n dX11_ends_24 rfl 0 rfl ?_
      refine e_getI dX11_ends_25 lkX11_276 tt_127 rfl ?_
      rw [v5 25 (by decide), hG.1]
      refine e_icmp_ge (t := 102) dX11_ends_28 (by decide) (fun h28 => ?_) (fun h28 => ?_)
      · skip
        refine e_iload_n dX11_ends_102 rfl 1 rfl ?_
        refine e_if_ne (t := 120) dX11_ends_103 (by decide) (fun h103 => ?_) (fun h103 => ?_)
        · skip
          skip
          refine e_iload_n dX11_ends_120 rfl 2 rfl ?_
          refine e_istore_n [(0, .ref 127), (1, .int w), (2, .int (nI a)), (3, .int (nI a))] dX11_ends_121 rfl (by decide) rfl ?_
          refine e_aload_n dX11_ends_122 rfl 0 rfl ?_
          refine e_aload_n dX11_ends_123 rfl 0 rfl ?_
          refine e_getR dX11_ends_124 lkX11_75 tt_127 rfl ?_
          refine e_callVv dX11_ends_127 cvX11_283 rfl tt_127 rfl (c11_again tt_149 (Or.inr rfl)) (Nat.le_of_ble_eq_true rfl) (Nat.le_refl _) (Nat.le_refl _) rfl (Nat.le_of_ble_eq_true rfl) (fun s127 m127 q127 => ?_)
          obtain ⟨a1, a2, a3⟩ := q127
          rw [a3]
          refine e_iload_n dX11_ends_130 rfl 3 rfl ?_
          refine e_reti dX11_ends_131 ev_nwi (Nat.le_refl _) (Nat.le_refl _) ?_
          refine ⟨?_, fun q hq => by rw [a2 q hq, v6 q hq], fun i hi => ?_, fun k c1 c2 c3 c4 c5 c6 c7 => ?_, rfl⟩
          · unfold nends
            rw [cif_t hw, if_neg h103, ← he]
          · rw [a1.1 i (by omega)]
            exact v4 i (by omega) (by omega) (by omega) (by omega) (by omega) (by omega)
          · rw [a1.2 k c1 c2 c3 c4 c5 c6]
            exact v5 k c7
        · skip
          skip
          refine e_aload_n dX11_ends_106 rfl 0 rfl ?_
          refine e_callVi dX11_ends_107 cvX11_229 rfl tt_127 rfl (c11_allN v1 v3) (Nat.le_of_ble_eq_true rfl) (Nat.le_refl _) (Nat.le_refl _) rfl (Nat.le_of_ble_eq_true rfl) (fun r107 s107 m107 q107 => ?_)
          obtain ⟨q107, e107, g107⟩ := q107
          rw [e107, g107]
          clear e107 g107 s107 m107
          refine e_aload_n dX11_ends_110 rfl 0 rfl ?_
          refine e_callVi dX11_ends_111 cvX11_218 rfl tt_127 rfl (c11_there v1 v3) (Nat.le_of_ble_eq_true rfl) (Nat.le_refl _) (Nat.le_refl _) rfl (Nat.le_of_ble_eq_true rfl) (fun r111 s111 m111 q111 => ?_)
          obtain ⟨q111, e111, g111⟩ := q111
          rw [e111, g111]
          clear e111 g111 s111 m111
          rw [q111]
          refine e_iconst (v := (-1)) dX11_ends_114 rfl ?_
          refine e_ixor dX11_ends_115 ?_
          refine e_iand dX11_ends_116 ?_
          rw [q107, show nI (nthere S1) ^^^ (-1) = nI (nthere S1) ^^^ (-1) from rfl, not_i _ _ (by have := nall_lt v1; omega), miss_back v1]
          refine e_goto (t := 121) dX11_ends_117 (by decide) ?_
          refine e_istore_n [(0, .ref 127), (1, .int w), (2, .int (nI a)), (3, .int (nI (S1 0 3)))] dX11_ends_121 rfl (by decide) rfl ?_
          refine e_aload_n dX11_ends_122 rfl 0 rfl ?_
          refine e_aload_n dX11_ends_123 rfl 0 rfl ?_
          refine e_getR dX11_ends_124 lkX11_75 tt_127 rfl ?_
          refine e_callVv dX11_ends_127 cvX11_283 rfl tt_127 rfl (c11_again tt_149 (Or.inr rfl)) (Nat.le_of_ble_eq_true rfl) (Nat.le_refl _) (Nat.le_refl _) rfl (Nat.le_of_ble_eq_true rfl) (fun s127 m127 q127 => ?_)
          obtain ⟨a1, a2, a3⟩ := q127
          rw [a3]
          refine e_iload_n dX11_ends_130 rfl 3 rfl ?_
          refine e_reti dX11_ends_131 ev_nwi (Nat.le_refl _) (Nat.le_refl _) ?_
          refine ⟨?_, fun q hq => by rw [a2 q hq, v6 q hq], fun i hi => ?_, fun k c1 c2 c3 c4 c5 c6 c7 => ?_, rfl⟩
          · unfold nends
            rw [cif_t hw, if_pos h103, ← he]
          · rw [a1.1 i (by omega)]
            exact v4 i (by omega) (by omega) (by omega) (by omega) (by omega) (by omega)
          · rw [a1.2 k c1 c2 c3 c4 c5 c6]
            exact v5 k c7
      · skip
        exact absurd (show nI (S 13 0) ≤ nI (S 13 0) from (i_le (by omega) (by omega)).mpr (by omega)) h28
    | succ m ih =>
      intro i a S1 σ1 hi v1 v2 v3 v4 v5 v6 v7 v8
      obtain ⟨g1, g2⟩ := hG.2 i (by omega)
      obtain ⟨w1, w2⟩ := hU2 i (by omega)
      have hx1 : S 15 i < S1 0 0 := by omega
      have v8 : nplay p S m (i + 1) (nstep p S1 (S 14 i) (S 15 i)).1 (a + (nstep p S1 (S 14 i) (S 15 i)).2) = nplay p S (S 13 0) 0 S 0 := v8
      have hF1 : FR σ1 p := hF.to2 (fun k h1 h2 => v4 k (by omega) (by omega) (by omega) (by omega) (by omega) (by omega)) (fun k hk => v5 k (by omega))
      have g1' : σ1 144 i = nI (S 14 i) := by rw [v4 144 (by decide) (by decide) (by decide) (by decide) (by decide) (by decide)]; exact g1
      have g2' : σ1 145 i = nI (S 15 i) := by rw [v4 145 (by decide) (by decide) (by decide) (by decide) (by decide) (by decide)]; exact g2
      obtain ⟨k1, k2, k3, k4⟩ := nstep_ok (p := p) v1 (w := S 14 i) (x := S 15 i) (by omega)
      refine e_iload_n dX11_ends_23 rfl 3 rfl ?_
      refine e_aload_n dX11_ends_24 rfl 0 rfl ?_
      refine e_getI dX11_ends_25 lkX11_276 tt_127 rfl ?_
      rw [v5 25 (by decide), hG.1]
      refine e_icmp_ge (t := 102) dX11_ends_28 (by decide) (fun h28 => ?_) (fun h28 => ?_)
      · skip
        exact absurd ((i_le (by omega) (by omega)).mp (show nI (S 13 0) ≤ nI i from h28)) (by omega)
      · skip
        refine e_aload_n dX11_ends_31 rfl 0 rfl ?_
        refine e_getR dX11_ends_32 lkX11_63 tt_127 rfl ?_
        refine e_iload_n dX11_ends_35 rfl 3 rfl ?_
        refine e_iald dX11_ends_36 tt_145 (vp_in_nI (by omega) (by decide)) ?_
        rw [i_cl (show i < 2 ^ 31 by omega), g2']
        refine e_istore [(0, .ref 127), (1, .int w), (2, .int (nI a)), (3, .int (nI i)), (4, .int (nI (S 15 i)))] dX11_ends_37 (by decide) rfl ?_
        refine e_aload_n dX11_ends_39 rfl 0 rfl ?_
        refine e_getR dX11_ends_40 lkX11_60 tt_127 rfl ?_
        refine e_iload_n dX11_ends_43 rfl 3 rfl ?_
        refine e_iald dX11_ends_44 tt_144 (vp_in_nI (by omega) (by decide)) ?_
        rw [i_cl (show i < 2 ^ 31 by omega), g1']
        refine e_if_ne (t := 59) dX11_ends_45 (by decide) (fun h45 => ?_) (fun h45 => ?_)
        · skip
          skip
          refine e_aload_n dX11_ends_59 rfl 0 rfl ?_
          refine e_getR dX11_ends_60 lkX11_60 tt_127 rfl ?_
          refine e_iload_n dX11_ends_63 rfl 3 rfl ?_
          refine e_iald dX11_ends_64 tt_144 (vp_in_nI (by omega) (by decide)) ?_
          rw [i_cl (show i < 2 ^ 31 by omega), g1']
          refine e_iconst (v := 2) dX11_ends_65 rfl ?_
          refine e_icmp_ne (t := 80) dX11_ends_66 (by decide) (fun h66 => ?_) (fun h66 => ?_)
          · skip
            have hw1 : S 14 i = 1 := by
              rcases w3 w1 with e | e | e
              · exact absurd (show nI (S 14 i) = 0 by rw [e]; rfl) h45
              · exact e
              · exact absurd (show nI (S 14 i) = 2 by rw [e]; rfl) h66
            refine e_aload_n dX11_ends_80 rfl 0 rfl ?_
            refine e_iload dX11_ends_81 4 rfl ?_
            refine e_callVi dX11_ends_83 cvX11_199 rfl tt_127 rfl (c11_repairs hp v1 hx1 hF1 v3) (Nat.le_of_ble_eq_true rfl) (Nat.le_refl _) (Nat.le_refl _) rfl (Nat.le_of_ble_eq_true rfl) (fun r83 s83 m83 q83 => ?_)
            obtain ⟨q83, a1, a2, a3, a4, a5⟩ := q83
            rw [a5]
            refine e_if_eq (t := 96) dX11_ends_86 (by decide) (fun h86 => ?_) (fun h86 => ?_)
            · skip
              skip
              refine e_iinc (nI (i + 1)) [(0, .ref 127), (1, .int w), (2, .int (nI a)), (3, .int (nI (i + 1))), (4, .int (nI (S 15 i)))] dX11_ends_96 3 rfl (nI_1 i) (by decide) rfl ?_
              refine e_goto (t := 23) dX11_ends_99 (by decide) ?_
              refine e_lv [(0, .ref 127), (1, .int w), (2, .int (nI a)), (3, .int (nI (i + 1)))] (List.forall_mem_cons.mpr ⟨List.mem_of_getElem? (i := 0) rfl, List.forall_mem_cons.mpr ⟨List.mem_of_getElem? (i := 1) rfl, List.forall_mem_cons.mpr ⟨List.mem_of_getElem? (i := 2) rfl, List.forall_mem_cons.mpr ⟨List.mem_of_getElem? (i := 3) rfl, fun _ h => absurd h List.not_mem_nil⟩⟩⟩⟩) ?_
              rw [q83, bI_eq0] at h86
              have hb9 : nbk p S1 (S 15 i) = none := by
                cases h9 : nbk p S1 (S 15 i) with
                | none => rfl
                | some t9 => rw [h9] at h86; exact absurd rfl h86
              rw [hw1, nstep_1, hb9] at v8 k1 k2 k4
              rw [hb9] at a1
              exact ih (i + 1) a S1 s83 (by omega) k1 (k2.trans v2) a1 (fun k c1 c2 c3 c4 c5 c6 => by rw [a3 k c1 c6 c3 c4]; exact v4 k c1 c2 c3 c4 c5 c6) (fun k hk => by rw [a4 k hk]; exact v5 k hk) (fun q hq => by rw [a3 149 (by decide) (by decide) (by decide) (by decide)]; exact v6 q hq) (by omega) v8
            · skip
              rw [q83, bI_eq0] at h86
              have hb8 := Classical.not_not.mp h86
              obtain ⟨t9, hb9⟩ : ∃ t9, nbk p S1 (S 15 i) = some t9 := by
                cases h9 : nbk p S1 (S 15 i) with
                | none => rw [h9] at hb8; cases hb8
                | some t9 => exact ⟨t9, rfl⟩
              refine e_iload_n dX11_ends_89 rfl 2 rfl ?_
              refine e_aload_n dX11_ends_90 rfl 0 rfl ?_
              refine e_getI dX11_ends_91 lkX11_193 tt_127 rfl ?_
              rw [a2 t9 hb9]
              refine e_iadd dX11_ends_94 ?_
              rw [i_add]
              refine e_istore_n [(0, .ref 127), (1, .int w), (2, .int (nI (a + ncs S1 t9))), (3, .int (nI i)), (4, .int (nI (S 15 i)))] dX11_ends_95 rfl (by decide) rfl ?_
              refine e_iinc (nI (i + 1)) [(0, .ref 127), (1, .int w), (2, .int (nI (a + ncs S1 t9))), (3, .int (nI (i + 1))), (4, .int (nI (S 15 i)))] dX11_ends_96 3 rfl (nI_1 i) (by decide) rfl ?_
              refine e_goto (t := 23) dX11_ends_99 (by decide) ?_
              refine e_lv [(0, .ref 127), (1, .int w), (2, .int (nI (a + ncs S1 t9))), (3, .int (nI (i + 1)))] (List.forall_mem_cons.mpr ⟨List.mem_of_getElem? (i := 0) rfl, List.forall_mem_cons.mpr ⟨List.mem_of_getElem? (i := 1) rfl, List.forall_mem_cons.mpr ⟨List.mem_of_getElem? (i := 2) rfl, List.forall_mem_cons.mpr ⟨List.mem_of_getElem? (i := 3) rfl, fun _ h => absurd h List.not_mem_nil⟩⟩⟩⟩) ?_
              rw [hw1, nstep_1, hb9] at v8 k1 k2 k4
              rw [hb9] at a1
              exact ih (i + 1) (a + ncs S1 t9) (nrep S1 (S 15 i) t9) s83 (by omega) k1 (k2.trans v2) a1 (fun k c1 c2 c3 c4 c5 c6 => by rw [a3 k c1 c6 c3 c4]; exact v4 k c1 c2 c3 c4 c5 c6) (fun k hk => by rw [a4 k hk]; exact v5 k hk) (fun q hq => by rw [a3 149 (by decide) (by decide) (by decide) (by decide)]; exact v6 q hq) (by have := ncs_le v1 t9; omega) v8
          · skip
            have hw2 : S 14 i = 2 := (i_eq (b := 2) (by omega) (by decide)).mp h66
            refine e_aload_n dX11_ends_69 rfl 0 rfl ?_
            refine e_getR dX11_ends_70 lkX11_24 tt_127 rfl ?_
            refine e_iload dX11_ends_73 4 rfl ?_
            refine e_iconst (v := 0) dX11_ends_75 rfl ?_
            refine e_iast dX11_ends_76 tt_132 (vp_in_nI (by omega) (by decide)) ?_
            refine e_goto (t := 96) dX11_ends_77 (by decide) ?_
            refine e_iinc (nI (i + 1)) [(0, .ref 127), (1, .int w), (2, .int (nI a)), (3, .int (nI (i + 1))), (4, .int (nI (S 15 i)))] dX11_ends_96 3 rfl (nI_1 i) (by decide) rfl ?_
            refine e_goto (t := 23) dX11_ends_99 (by decide) ?_
            refine e_lv [(0, .ref 127), (1, .int w), (2, .int (nI a)), (3, .int (nI (i + 1)))] (List.forall_mem_cons.mpr ⟨List.mem_of_getElem? (i := 0) rfl, List.forall_mem_cons.mpr ⟨List.mem_of_getElem? (i := 1) rfl, List.forall_mem_cons.mpr ⟨List.mem_of_getElem? (i := 2) rfl, List.forall_mem_cons.mpr ⟨List.mem_of_getElem? (i := 3) rfl, fun _ h => absurd h List.not_mem_nil⟩⟩⟩⟩) ?_
            rw [i_cl (show S 15 i < 2 ^ 31 by omega)]
            rw [hw2, nstep_2] at v8 k1 k2 k4
            exact ih (i + 1) a (nup S1 2 (S 15 i) 0) _ (by omega) k1 (k2.trans v2) v3.v0 (fun k c1 c2 c3 c4 c5 c6 => by rw [sup_obj c2]; exact v4 k c1 c2 c3 c4 c5 c6) (fun k hk => by rw [sup_obj (by decide)]; exact v5 k hk) (fun q hq => by rw [sup_obj (by decide)]; exact v6 q hq) (by omega) v8
        · skip
          have hw0 : S 14 i = 0 := (i_eq (b := 0) (by omega) (by decide)).mp h45
          refine e_aload_n dX11_ends_48 rfl 0 rfl ?_
          refine e_getR dX11_ends_49 lkX11_33 tt_127 rfl ?_
          refine e_iload dX11_ends_52 4 rfl ?_
          refine e_iconst (v := 1) dX11_ends_54 rfl ?_
          refine e_iast dX11_ends_55 tt_135 (vp_in_nI (by omega) (by decide)) ?_
          refine e_goto (t := 96) dX11_ends_56 (by decide) ?_
          refine e_iinc (nI (i + 1)) [(0, .ref 127), (1, .int w), (2, .int (nI a)), (3, .int (nI (i + 1))), (4, .int (nI (S 15 i)))] dX11_ends_96 3 rfl (nI_1 i) (by decide) rfl ?_
          refine e_goto (t := 23) dX11_ends_99 (by decide) ?_
          refine e_lv [(0, .ref 127), (1, .int w), (2, .int (nI a)), (3, .int (nI (i + 1)))] (List.forall_mem_cons.mpr ⟨List.mem_of_getElem? (i := 0) rfl, List.forall_mem_cons.mpr ⟨List.mem_of_getElem? (i := 1) rfl, List.forall_mem_cons.mpr ⟨List.mem_of_getElem? (i := 2) rfl, List.forall_mem_cons.mpr ⟨List.mem_of_getElem? (i := 3) rfl, fun _ h => absurd h List.not_mem_nil⟩⟩⟩⟩) ?_
          rw [i_cl (show S 15 i < 2 ^ 31 by omega)]
          rw [hw0, nstep_0] at v8 k1 k2 k4
          exact ih (i + 1) a (nlos S1 (S 15 i)) _ (by omega) k1 (k2.trans v2) v3.los (fun k c1 c2 c3 c4 c5 c6 => by rw [sup_obj c4]; exact v4 k c1 c2 c3 c4 c5 c6) (fun k hk => by rw [sup_obj (by decide)]; exact v5 k hk) (fun q hq => by rw [sup_obj (by decide)]; exact v6 q hq) (by omega) v8
  refine e_iload_n dX11_ends_0 rfl 1 rfl ?_
  refine e_iconst (v := 0) dX11_ends_1 rfl ?_
  refine e_iconst (v := 1) dX11_ends_2 rfl ?_
  refine e_callSi dX11_ends_3 cvX11_99 rfl (c11_within w 0 1) (Nat.le_of_ble_eq_true rfl) (Nat.le_refl _) (Nat.le_refl _) rfl (Nat.le_of_ble_eq_true rfl) (fun r3 s3 m3 q3 => ?_)
  obtain ⟨q3, e3, g3⟩ := q3
  rw [e3, g3]
  clear e3 g3 s3 m3
  refine e_if_ne (t := 11) dX11_ends_6 (by decide) (fun h6 => ?_) (fun h6 => ?_)
  · skip
    rw [q3, bI_eq0] at h6
    have hP := Classical.not_not.mp h6
    refine e_aload_n dX11_ends_11 rfl 0 rfl ?_
    refine e_aload_n dX11_ends_12 rfl 0 rfl ?_
    refine e_getR dX11_ends_13 lkX11_75 tt_127 rfl ?_
    refine e_callVv dX11_ends_16 cvX11_279 rfl tt_127 rfl (c11_keep tt_149 (Or.inr rfl)) (Nat.le_of_ble_eq_true rfl) (Nat.le_refl _) (Nat.le_refl _) rfl (Nat.le_of_ble_eq_true rfl) (fun s16 m16 q16 => ?_)
    obtain ⟨f0, p0, g0⟩ := q16
    rw [g0]
    refine e_iconst (v := 0) dX11_ends_19 rfl ?_
    refine e_istore_n [(0, .ref 127), (1, .int w), (2, .int (nI 0))] dX11_ends_20 rfl (by decide) rfl ?_
    refine e_iconst (v := 0) dX11_ends_21 rfl ?_
    refine e_istore_n [(0, .ref 127), (1, .int w), (2, .int (nI 0)), (3, .int (nI 0))] dX11_ends_22 rfl (by decide) rfl ?_
    exact loop (i01 hP) (S 13 0) 0 0 S s16 (by omega) hV rfl (hR.to2 (fun i h1 h2 => f0 i (by omega)) (fun k _ _ => by rw [f0 127 (by decide)])) (fun k c1 c2 c3 c4 c5 c6 => f0 k c5) (fun k _ => by rw [f0 127 (by decide)]) p0 (by omega) rfl
  · skip
    rw [q3] at h6
    have h6 := bI_eq0.mp h6
    refine e_iconst (v := (-1)) dX11_ends_9 rfl ?_
    refine e_reti dX11_ends_10 ev_nwi (Nat.le_refl _) (Nat.le_refl _) ?_
    have hno : ¬ (w = 0 ∨ w = 1) := fun q => h6 (i01' q)
    have hr : nends p S w = -1 := cif_f hno
    rw [hr]
    exact ⟨rfl, fun _ _ => rfl, fun _ _ => rfl, fun _ _ _ _ _ _ _ _ => rfl, rfl⟩
