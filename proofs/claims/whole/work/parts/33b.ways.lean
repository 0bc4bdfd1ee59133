def gls (S : ns_T) : Nat → List Nat
  | 0 => []
  | i + 1 => srw S i :: gls S i
theorem gls_mem {S : ns_T} {v : Nat} : ∀ n, v ∈ gls S n ↔ v ∈ lu (srw S) n 0
  | 0 => Iff.rfl
  | n + 1 => by
    show v ∈ srw S n :: gls S n ↔ _
    rw [List.mem_cons, gls_mem n, lu_mem, lu_mem]
    constructor
    · rintro (h | ⟨j, h1, h2, h3⟩)
      · exact ⟨n, by omega, by omega, h⟩
      · exact ⟨j, by omega, by omega, h3⟩
    · rintro ⟨j, h1, h2, h3⟩
      by_cases e : j = n
      · rw [e] at h3
        exact Or.inl h3
      · exact Or.inr ⟨j, by omega, by omega, h3⟩
theorem i_all2 {n : Nat} (hn : n ≤ 20) : ((1 : Int32) <<< (nI n &&& 31)) - 1 = nI (2 ^ n - 1) := by
  rw [i_shl1 (by omega), show (1 : Int32) = nI 1 from rfl, i_sub (Nat.one_le_two_pow)]
theorem cw_or {f s D : Nat} (hs : s < 16) : nI (cw f 0 D) ||| nI s = nI (cw f s D) := by
  have e : cw f 0 D = 2 ^ 4 * (f % 2 ^ (4 * D)) := by unfold cw; omega
  rw [e, fa_or_sum _ (k := 4) (show s < 2 ^ 4 by omega)]
  congr 1
  unfold cw
  omega
theorem or_add {a s k : Nat} (ha : a < 2 ^ k) : a ||| s * 2 ^ k = a + s * 2 ^ k := by
  rw [Nat.or_comm, Nat.mul_comm s, ← Nat.two_pow_add_eq_or_of_lt ha, Nat.add_comm]

set_option maxRecDepth 100000 in
theorem c10_seenForm {S : ns_T} (hV : VS S) {j : Nat} (hj : j < S 0 0) {σ : ex_S} {μ : ex_L}(hC : NC σ 33 S) : Ci 3 yX10_seenForm cX10_seenForm 3 (some .int) [.ref 0, .int (nI j)] TT σ μ (fun z' σ' μ' => z' = nI (cw (S 5 j) 0 (S 0 1)) ∧ σ' = σ ∧ μ' = μ) := by
  refine Cl_of (by decide +kernel) (Nat.le_of_ble_eq_true rfl) ?_
  show Ev RX10 cX10_seenForm 3 3 0 0 "seenForm" (some .int) ev_ext _ _ 0 0 0 [(0, .ref 0), (1, .int (nI j))] [] TT σ μ
  have hn := hV.1
  have h2n := two_n hV
  have hd := hV.2.1
  have hfj := (hV.2.2.2.2.2.2.1 j hj).2.2.2.1
  have hm : S 5 j % 2 ^ (4 * S 0 1) ≤ S 5 j := Nat.mod_le _ _
  refine e_iconst (v := 1) dX10_seenForm_0 rfl ?_
  refine e_iconst (v := 4) dX10_seenForm_1 rfl ?_
  refine e_aload_n dX10_seenForm_2 rfl 0 rfl ?_
  refine e_getR dX10_seenForm_3 lkX10_46 tt_0 rfl ?_
  refine e_getR dX10_seenForm_6 lkX10_89 (store_0 store_32_) rfl ?_
  refine e_getI dX10_seenForm_9 lkX10_130 (nodes_0 (store_n store_32_)) rfl ?_
  refine e_imul dX10_seenForm_12 ?_
  rw [hC.2.1, show (4 : Int32) = nI 4 from rfl, i_mul]
  refine e_ishl dX10_seenForm_13 ?_
  refine e_iconst (v := 1) dX10_seenForm_14 rfl ?_
  refine e_isub dX10_seenForm_15 ?_
  rw [i_all2 (show 4 * S 0 1 ≤ 20 by omega)]
  refine e_istore_n [(0, .ref 0), (1, .int (nI j)), (2, .int (nI (2 ^ (4 * S 0 1) - 1)))] dX10_seenForm_16 rfl (by decide) rfl ?_
  refine e_aload_n dX10_seenForm_17 rfl 0 rfl ?_
  refine e_getR dX10_seenForm_18 lkX10_46 tt_0 rfl ?_
  refine e_getR dX10_seenForm_21 lkX10_89 (store_0 store_32_) rfl ?_
  refine e_iload_n dX10_seenForm_24 rfl 1 rfl ?_
  refine e_callVi dX10_seenForm_25 cvX10_165 rfl (nodes_0 (store_n store_32_)) rfl (c3_hasN nodes_33_ hC (nI j)) (Nat.le_of_ble_eq_true rfl) (Nat.le_refl _) (Nat.le_refl _) rfl (Nat.le_of_ble_eq_true rfl) (fun r25 s25 m25 q25 => ?_)
  obtain ⟨q25, e25, g25⟩ := q25
  rw [e25, g25]
  clear e25 g25 s25 m25
  refine e_if_eq (t := 50) dX10_seenForm_28 (by decide) (fun h28 => ?_) (fun h28 => ?_)
  · skip
    rw [q25] at h28
    exact absurd (nhas hV hj) (bI_eq0.mp h28)
  · skip
    refine e_aload_n dX10_seenForm_31 rfl 0 rfl ?_
    refine e_getR dX10_seenForm_32 lkX10_46 tt_0 rfl ?_
    refine e_getR dX10_seenForm_35 lkX10_89 (store_0 store_32_) rfl ?_
    refine e_getR dX10_seenForm_38 lkX10_204 (nodes_0 (store_n store_32_)) rfl ?_
    refine e_iload_n dX10_seenForm_41 rfl 1 rfl ?_
    refine e_iald dX10_seenForm_42 (nodes_4 (store_n store_32_)) (vp_in_nI (by omega) (by decide)) ?_
    rw [i_cl (show j < 2 ^ 31 by omega), (hC.2.2.2.2.1 j hj).2.2.2.1]
    refine e_iload_n dX10_seenForm_43 rfl 2 rfl ?_
    refine e_iand dX10_seenForm_44 ?_
    rw [fa_mask]
    refine e_iconst (v := 4) dX10_seenForm_45 rfl ?_
    refine e_ishl dX10_seenForm_46 ?_
    rw [show (4 : Int32) = nI 4 from rfl, i_shl (i := 4) (by omega) (by decide)]
    refine e_goto (t := 51) dX10_seenForm_47 (by decide) ?_
    refine e_reti dX10_seenForm_51 ev_nwi (Nat.le_refl _) (Nat.le_refl _) ?_
    exact ⟨congrArg nI (by unfold cw; rw [Nat.add_zero]), rfl, rfl⟩

set_option maxRecDepth 100000 in
theorem c10_gatherSeen {p : Nat} (hp : gP p) {S : ns_T} (hV : VS S) (hU : PSV S) {σ : ex_S} {μ : ex_L}(hF : FC σ p) (hC : NC σ 33 S) (hG : PG σ 52 S 10) : Ci 6 yX10_gatherSeen cX10_gatherSeen 2 (some .boolean) [.ref 0] TT σ μ (fun z' σ' μ' => ((z' = 1 ∧ Cons p (Wl S)) ∨ (z' = 0 ∧ ¬ Cons p (Wl S))) ∧ (∃ R, SpV σ' 109 R (grk p (Wl S)) ∧ SpI p R (Wl S)) ∧ (∀ i, i ≠ 109 → i ≠ 110 → σ' i = σ i) ∧ μ' = μ) := by
  refine Cl_of (by decide +kernel) (Nat.le_of_ble_eq_true rfl) ?_
  show Ev RX10 cX10_gatherSeen 2 6 0 0 "gatherSeen" (some .boolean) ev_ext _ _ 0 0 0 [(0, .ref 0)] [] TT σ μ
  have hn := hV.1
  have hd := hV.2.1
  have hz := hU.1
  have loop : ∀ (m i : Nat) (σ1 : ex_S) (R : Nat → Nat) (z : Nat), i + m = S 10 0 → (∀ k, k ≠ 109 → k ≠ 110 → σ1 k = σ k) → SpV σ1 109 R z → SpI p R (gls S i) → z = grk p (gls S i) → Ev RX10 cX10_gatherSeen 2 6 0 0 "gatherSeen" (some .boolean) ev_ext TT.length (fun v9 T9 σ9 μ9 => T9 = TT ∧ ∃ z9, v9 = some (.int z9) ∧ (fun z' σ' μ' => ((z' = 1 ∧ Cons p (Wl S)) ∨ (z' = 0 ∧ ¬ Cons p (Wl S))) ∧ (∃ R, SpV σ' 109 R (grk p (Wl S)) ∧ SpI p R (Wl S)) ∧ (∀ i, i ≠ 109 → i ≠ 110 → σ' i = σ i) ∧ μ' = μ) z9 σ9 μ9) 0 0 9 [(0, .ref 0), (1, .int (nI i))] [] TT σ1 μ := by
    intro m
    induction m with
    | zero =>
      intro i σ1 R z hi f1 p1 i1 e1
      obtain rfl : i = S 10 0 := by omega
      have hI : SpI p R (Wl S) := SpI_congr hp i1 (fun _ _ => rfl) (fun v => gls_mem (S 10 0))
      have hz9 : z = grk p (Wl S) := e1.trans (grk_perm hp i1.1 hI.1 (fun v => gls_mem (S 10 0)))
      subst hz9
      have hR0 := (hI.2.1 0 (by decide)).1
      refine e_iload_n dX10_gatherSeen_9 rfl 1 rfl ?_
      refine e_aload_n dX10_gatherSeen_10 rfl 0 rfl ?_
      refine e_getR dX10_gatherSeen_11 lkX10_46 tt_0 rfl ?_
      refine e_getR dX10_gatherSeen_14 lkX10_272 (store_0 store_32_) rfl ?_
      refine e_getI dX10_gatherSeen_17 lkX10_280 (pairs_0 (store_p1 store_32_)) rfl ?_
      rw [f1 52 (by decide) (by decide), hG.1]
      refine e_icmp_ge (t := 65) dX10_gatherSeen_20 (by decide) (fun h20 => ?_) (fun h20 => ?_)
      · skip
        refine e_aload_n dX10_gatherSeen_65 rfl 0 rfl ?_
        refine e_getR dX10_gatherSeen_66 lkX10_67 tt_0 rfl ?_
        refine e_getR dX10_gatherSeen_69 lkX10_311 (span_0 span_109_) rfl ?_
        refine e_iconst (v := 0) dX10_gatherSeen_72 rfl ?_
        refine e_iald dX10_gatherSeen_73 (span_1 span_109_) (i_in (j := 0) rfl (by decide) (by decide)) ?_
        rw [show (0 : Int32).toNatClampNeg = 0 from by decide, p1.1 0 (by decide)]
        refine e_if_ne (t := 81) dX10_gatherSeen_74 (by decide) (fun h74 => ?_) (fun h74 => ?_)
        · skip
          skip
          refine e_iconst (v := 0) dX10_gatherSeen_81 rfl ?_
          refine e_reti dX10_gatherSeen_82 ev_nw0 (Nat.le_refl _) (Nat.le_refl _) ?_
          have h0 : ¬ R 0 = 0 := fun q => h74 (by rw [q]; rfl)
          exact ⟨Or.inr ⟨rfl, fun q => h0 ((R0_cons hI).mpr q)⟩, ⟨R, p1, hI⟩, f1, rfl⟩
        · skip
          skip
          refine e_iconst (v := 1) dX10_gatherSeen_77 rfl ?_
          refine e_goto (t := 82) dX10_gatherSeen_78 (by decide) ?_
          refine e_reti dX10_gatherSeen_82 ev_nw1 (Nat.le_refl _) (Nat.le_refl _) ?_
          have h0 : R 0 = 0 := (i_eq (b := 0) (by omega) (by decide)).mp h74
          exact ⟨Or.inl ⟨rfl, (R0_cons hI).mp h0⟩, ⟨R, p1, hI⟩, f1, rfl⟩
      · skip
        exact absurd (show nI (S 10 0) ≤ nI (S 10 0) from (i_le (by omega) (by omega)).mpr (by omega)) h20
    | succ m ih =>
      intro i σ1 R z hi f1 p1 i1 e1
      obtain ⟨g1, g2⟩ := hG.2 i (by omega)
      have g1 : σ 53 i = nI (S 11 i) := g1
      have g2 : σ 54 i = nI (S 12 i) := g2
      obtain ⟨w1, w2⟩ := hU.2.2.2.1 i (by omega)
      have hC1 : NC σ1 33 S := hC.to hV (fun k h1 h2 => f1 k (by omega) (by omega))
      have hF1 : FC σ1 p := hF.to (f1 1 (by decide) (by decide)) (f1 2 (by decide) (by decide))
      refine e_iload_n dX10_gatherSeen_9 rfl 1 rfl ?_
      refine e_aload_n dX10_gatherSeen_10 rfl 0 rfl ?_
      refine e_getR dX10_gatherSeen_11 lkX10_46 tt_0 rfl ?_
      refine e_getR dX10_gatherSeen_14 lkX10_272 (store_0 store_32_) rfl ?_
      refine e_getI dX10_gatherSeen_17 lkX10_280 (pairs_0 (store_p1 store_32_)) rfl ?_
      rw [f1 52 (by decide) (by decide), hG.1]
      refine e_icmp_ge (t := 65) dX10_gatherSeen_20 (by decide) (fun h20 => ?_) (fun h20 => ?_)
      · skip
        exact absurd ((i_le (by omega) (by omega)).mp (show nI (S 10 0) ≤ nI i from h20)) (by omega)
      · skip
        refine e_aload_n dX10_gatherSeen_23 rfl 0 rfl ?_
        refine e_getR dX10_gatherSeen_24 lkX10_67 tt_0 rfl ?_
        refine e_aload_n dX10_gatherSeen_27 rfl 0 rfl ?_
        refine e_aload_n dX10_gatherSeen_28 rfl 0 rfl ?_
        refine e_getR dX10_gatherSeen_29 lkX10_46 tt_0 rfl ?_
        refine e_getR dX10_gatherSeen_32 lkX10_272 (store_0 store_32_) rfl ?_
        refine e_getR dX10_gatherSeen_35 lkX10_299 (pairs_0 (store_p1 store_32_)) rfl ?_
        refine e_iload_n dX10_gatherSeen_38 rfl 1 rfl ?_
        refine e_iald dX10_gatherSeen_39 (pairs_1 (store_p1 store_32_)) (vp_in_nI (by omega) (by decide)) ?_
        rw [f1 53 (by decide) (by decide), i_cl (show i < 2 ^ 31 by omega), g1]
        refine e_callVi dX10_gatherSeen_40 cvX10_302 rfl tt_0 rfl (c10_seenForm hV w1 hC1) (Nat.le_of_ble_eq_true rfl) (Nat.le_refl _) (Nat.le_refl _) rfl (Nat.le_of_ble_eq_true rfl) (fun r40 s40 m40 q40 => ?_)
        obtain ⟨q40, e40, g40⟩ := q40
        rw [e40, g40]
        clear e40 g40 s40 m40
        refine e_aload_n dX10_gatherSeen_43 rfl 0 rfl ?_
        refine e_getR dX10_gatherSeen_44 lkX10_46 tt_0 rfl ?_
        refine e_getR dX10_gatherSeen_47 lkX10_272 (store_0 store_32_) rfl ?_
        refine e_getR dX10_gatherSeen_50 lkX10_305 (pairs_0 (store_p1 store_32_)) rfl ?_
        refine e_iload_n dX10_gatherSeen_53 rfl 1 rfl ?_
        refine e_iald dX10_gatherSeen_54 (pairs_2 (store_p1 store_32_)) (vp_in_nI (by omega) (by decide)) ?_
        rw [q40, f1 54 (by decide) (by decide), i_cl (show i < 2 ^ 31 by omega), g2]
        refine e_ior dX10_gatherSeen_55 ?_
        rw [cw_or w2]
        refine e_callVv dX10_gatherSeen_56 cvX10_308 rfl (span_0 span_109_) rfl (c7_take span_109_ (by decide) hp (w := srw S i) (cw_lt hd w2) hF1 p1 i1 e1) (Nat.le_of_ble_eq_true rfl) (Nat.le_refl _) (Nat.le_refl _) rfl (Nat.le_of_ble_eq_true rfl) (fun s56 m56 q56 => ?_)
        obtain ⟨a1, a2, R2, z2, a3, a4, a5⟩ := q56
        rw [a2]
        refine e_iinc (nI (i + 1)) [(0, .ref 0), (1, .int (nI (i + 1)))] dX10_gatherSeen_59 1 rfl (nI_1 i) (by decide) rfl ?_
        refine e_goto (t := 9) dX10_gatherSeen_62 (by decide) ?_
        exact ih (i + 1) s56 R2 z2 (by omega) (fun k h1 h2 => by rw [a1 k h1 h2]; exact f1 k h1 h2) a3 a4 a5
  refine e_aload_n dX10_gatherSeen_0 rfl 0 rfl ?_
  refine e_getR dX10_gatherSeen_1 lkX10_67 tt_0 rfl ?_
  refine e_callVv dX10_gatherSeen_4 cvX10_296 rfl (span_0 span_109_) rfl (c7_clear span_109_) (Nat.le_of_ble_eq_true rfl) (Nat.le_refl _) (Nat.le_refl _) rfl (Nat.le_of_ble_eq_true rfl) (fun s4 m4 q4 => ?_)
  obtain ⟨p4, f4, g4⟩ := q4
  rw [g4]
  refine e_iconst (v := 0) dX10_gatherSeen_7 rfl ?_
  refine e_istore_n [(0, .ref 0), (1, .int (nI 0))] dX10_gatherSeen_8 rfl (by decide) rfl ?_
  exact loop (S 10 0) 0 s4 _ 0 (by omega) f4 p4 (SpI_nil p) rfl

set_option maxHeartbeats 1000000 in
set_option maxRecDepth 100000 in
theorem c10_leastWay {p : Nat} (hp : gP p) {S : ns_T} (hV : VS S) {R : Nat → Nat} {z : Nat} {σ : ex_S} {μ : ex_L}(hF : FC σ p) (hC : NC σ 33 S) (hv : SpV σ 109 R z) (hE : Ech R) : Cg 4 yX10_leastWay cX10_leastWay 8 (some .long) [.ref 0] TT σ μ (fun z' σ' μ' => z' = lN (ylv p R (S 0 1)) ∧ σ' = σ ∧ μ' = μ) := by
  refine Cl_of (by decide +kernel) (Nat.le_of_ble_eq_true rfl) ?_
  show Ev RX10 cX10_leastWay 8 4 0 0 "leastWay" (some .long) ev_ext _ _ 0 0 0 [(0, .ref 0)] [] TT σ μ
  have hn := hV.1
  have hd := hV.2.1
  have outer : ∀ (m d : Nat), d + m = S 0 1 → Ev RX10 cX10_leastWay 8 4 0 0 "leastWay" (some .long) ev_ext TT.length (fun v9 T9 σ9 μ9 => T9 = TT ∧ ∃ z9, v9 = some (.long z9) ∧ (fun z' σ' μ' => z' = lN (ylv p R (S 0 1)) ∧ σ' = σ ∧ μ' = μ) z9 σ9 μ9) 0 0 7 [(0, .ref 0), (1, .int (nI (yv p R d))), (2, .long (lN (ylv p R d))), (4, .int (nI d))] [] TT σ μ := by
    intro m
    induction m with
    | zero =>
      intro d hdm
      obtain rfl : d = S 0 1 := by omega
      refine e_iload dX10_leastWay_7 3 rfl ?_
      refine e_aload_n dX10_leastWay_9 rfl 0 rfl ?_
      refine e_getR dX10_leastWay_10 lkX10_46 tt_0 rfl ?_
      refine e_getR dX10_leastWay_13 lkX10_89 (store_0 store_32_) rfl ?_
      refine e_getI dX10_leastWay_16 lkX10_130 (nodes_0 (store_n store_32_)) rfl ?_
      rw [hC.2.1]
      refine e_icmp_ge (t := 108) dX10_leastWay_19 (by decide) (fun h19 => ?_) (fun h19 => ?_)
      · skip
        refine e_lload_n dX10_leastWay_108 rfl 2 rfl ?_
        refine e_retl dX10_leastWay_109 (Nat.le_refl _) (Nat.le_refl _) ?_
        exact ⟨rfl, rfl, rfl⟩
      · skip
        exact absurd (show nI (S 0 1) ≤ nI (S 0 1) from (i_le (by omega) (by omega)).mpr (by omega)) h19
    | succ m ih =>
      intro d hdm
      have hR := (hE (d + 1) (by omega)).1
      have hy := yv_lt hp R d
      have hy2 : 2 ^ (4 * (d + 1)) ≤ 2 ^ 20 := Nat.pow_le_pow_right (by decide) (by omega)
      have hl := ylv_lt hp R d
      have hl2 : 2 ^ (4 * d) ≤ 2 ^ 16 := Nat.pow_le_pow_right (by decide) (by omega)
      have hs := ysm_lt hp R d
      have hrow : σ 110 (d + 1) = nI (R (d + 1)) := hv.1 (d + 1) (by omega)
      have inner : ∀ (m2 q : Nat), q + m2 = d + 1 → Ev RX10 cX10_leastWay 8 4 0 0 "leastWay" (some .long) ev_ext TT.length (fun v9 T9 σ9 μ9 => T9 = TT ∧ ∃ z9, v9 = some (.long z9) ∧ (fun z' σ' μ' => z' = lN (ylv p R (S 0 1)) ∧ σ' = σ ∧ μ' = μ) z9 σ9 μ9) 0 0 42 [(0, .ref 0), (1, .int (nI (yv p R d))), (2, .long (lN (ylv p R d))), (4, .int (nI d)), (5, .int (nI (R (d + 1)))), (6, .int (nI (dsum p (R (d + 1)) (yv p R d) q))), (7, .int (nI q))] [] TT σ μ := by
        intro m2
        induction m2 with
        | zero =>
          intro q hq
          obtain rfl : q = d + 1 := by omega
          have hsh : ysm p R d * 2 ^ (4 * (d + 1)) < 2 ^ 32 := by
            have := Nat.mul_le_mul (show ysm p R d ≤ 15 by omega) hy2
            omega
          refine e_iload dX10_leastWay_42 6 rfl ?_
          refine e_iload dX10_leastWay_44 3 rfl ?_
          refine e_icmp_gt (t := 80) dX10_leastWay_46 (by decide) (fun h46 => ?_) (fun h46 => ?_)
          · skip
            refine e_iload_n dX10_leastWay_80 rfl 1 rfl ?_
            refine e_iload dX10_leastWay_81 5 rfl ?_
            refine e_iconst (v := 4) dX10_leastWay_83 rfl ?_
            refine e_iload dX10_leastWay_84 3 rfl ?_
            refine e_iconst (v := 1) dX10_leastWay_86 rfl ?_
            refine e_iadd dX10_leastWay_87 ?_
            rw [nI_1 d]
            refine e_imul dX10_leastWay_88 ?_
            rw [show (4 : Int32) = nI 4 from rfl, i_mul]
            refine e_ishl dX10_leastWay_89 ?_
            
            refine e_ior dX10_leastWay_90 ?_
            rw [show nI (dsum p (R (d + 1)) (yv p R d) (d + 1)) <<< (nI (4 * (d + 1)) &&& 31) = nI (ysm p R d * 2 ^ (4 * (d + 1))) from i_shl hsh (by omega), fa_or, or_add hy]
            refine e_istore_n [(0, .ref 0), (1, .int (nI (yv p R (d + 1)))), (2, .long (lN (ylv p R d))), (4, .int (nI d)), (5, .int (nI (R (d + 1)))), (6, .int (nI (dsum p (R (d + 1)) (yv p R d) (d + 1)))), (7, .int (nI (d + 1)))] dX10_leastWay_91 rfl (by decide) rfl ?_
            refine e_ldc2 dX10_leastWay_92 kcX10_313 ?_
            refine e_lload_n dX10_leastWay_95 rfl 2 rfl ?_
            refine e_lmul dX10_leastWay_96 ?_
            refine e_iload dX10_leastWay_97 5 rfl ?_
            refine e_i2l dX10_leastWay_99 ?_
            refine e_ladd dX10_leastWay_100 ?_
            rw [nI_l (show dsum p (R (d + 1)) (yv p R d) (d + 1) < 2 ^ 31 by exact Nat.lt_trans hs (by decide)), show (16 : Int64) = lN 16 from rfl, lN_mul, lN_add]
            refine e_lstore_n [(0, .ref 0), (1, .int (nI (yv p R (d + 1)))), (2, .long (lN (ylv p R (d + 1)))), (4, .int (nI d)), (5, .int (nI (R (d + 1)))), (6, .int (nI (dsum p (R (d + 1)) (yv p R d) (d + 1)))), (7, .int (nI (d + 1)))] dX10_leastWay_101 rfl (by decide) rfl ?_
            refine e_iinc (nI (d + 1)) [(0, .ref 0), (1, .int (nI (yv p R (d + 1)))), (2, .long (lN (ylv p R (d + 1)))), (4, .int (nI (d + 1))), (5, .int (nI (R (d + 1)))), (6, .int (nI (dsum p (R (d + 1)) (yv p R d) (d + 1)))), (7, .int (nI (d + 1)))] dX10_leastWay_102 3 rfl (nI_1 d) (by decide) rfl ?_
            refine e_goto (t := 7) dX10_leastWay_105 (by decide) ?_
            refine e_lv [(0, .ref 0), (1, .int (nI (yv p R (d + 1)))), (2, .long (lN (ylv p R (d + 1)))), (4, .int (nI (d + 1)))] (List.forall_mem_cons.mpr ⟨List.mem_of_getElem? (i := 0) rfl, List.forall_mem_cons.mpr ⟨List.mem_of_getElem? (i := 1) rfl, List.forall_mem_cons.mpr ⟨List.mem_of_getElem? (i := 2) rfl, List.forall_mem_cons.mpr ⟨List.mem_of_getElem? (i := 3) rfl, fun _ h => absurd h List.not_mem_nil⟩⟩⟩⟩) ?_
            exact ih (d + 1) (by omega)
          · skip
            exact absurd ((i_lt (by omega) (by omega)).mpr (show d < d + 1 by omega)) h46
        | succ m2 ih2 =>
          intro q hq
          have hdl := dsum_lt hp (R (d + 1)) (yv p R d) q
          refine e_iload dX10_leastWay_42 6 rfl ?_
          refine e_iload dX10_leastWay_44 3 rfl ?_
          refine e_icmp_gt (t := 80) dX10_leastWay_46 (by decide) (fun h46 => ?_) (fun h46 => ?_)
          · skip
            exact absurd ((i_lt (by omega) (by omega)).mp h46) (by omega)
          · skip
            refine e_iload dX10_leastWay_49 5 rfl ?_
            refine e_aload_n dX10_leastWay_51 rfl 0 rfl ?_
            refine e_getR dX10_leastWay_52 lkX10_12 tt_0 rfl ?_
            refine e_iload dX10_leastWay_55 4 rfl ?_
            refine e_iload dX10_leastWay_57 6 rfl ?_
            refine e_callSi dX10_leastWay_59 cvX10_207 rfl (c10_numberAt (nI (R (d + 1))) (nI q)) (Nat.le_of_ble_eq_true rfl) (Nat.le_refl _) (Nat.le_refl _) rfl (Nat.le_of_ble_eq_true rfl) (fun r59 s59 m59 q59 => ?_)
            obtain ⟨q59, e59, g59⟩ := q59
            rw [e59, g59]
            clear e59 g59 s59 m59
            rw [q59, i_nib (f := R (d + 1)) (by omega) (show q < 8 by omega)]
            refine e_iload_n dX10_leastWay_62 rfl 1 rfl ?_
            refine e_iload dX10_leastWay_63 6 rfl ?_
            refine e_callSi dX10_leastWay_65 cvX10_207 rfl (c10_numberAt (nI (yv p R d)) (nI q)) (Nat.le_of_ble_eq_true rfl) (Nat.le_refl _) (Nat.le_refl _) rfl (Nat.le_of_ble_eq_true rfl) (fun r65 s65 m65 q65 => ?_)
            obtain ⟨q65, e65, g65⟩ := q65
            rw [e65, g65]
            clear e65 g65 s65 m65
            rw [q65, i_nib (f := yv p R d) (by omega) (show q < 8 by omega)]
            refine e_callVi dX10_leastWay_68 cvX10_107 rfl tt_1 rfl (c4_productS hp (nib_lt (R (d + 1)) q) (nib_lt (yv p R d) q) hF) (Nat.le_of_ble_eq_true rfl) (Nat.le_refl _) (Nat.le_refl _) rfl (Nat.le_of_ble_eq_true rfl) (fun r68 s68 m68 q68 => ?_)
            obtain ⟨q68, e68, g68⟩ := q68
            rw [e68, g68]
            clear e68 g68 s68 m68
            rw [q68]
            refine e_ixor dX10_leastWay_71 ?_
            rw [nx_xor]
            refine e_istore [(0, .ref 0), (1, .int (nI (yv p R d))), (2, .long (lN (ylv p R d))), (4, .int (nI d)), (5, .int (nI (R (d + 1)))), (6, .int (nI (dsum p (R (d + 1)) (yv p R d) (q + 1)))), (7, .int (nI q))] dX10_leastWay_72 (by decide) rfl ?_
            refine e_iinc (nI (q + 1)) [(0, .ref 0), (1, .int (nI (yv p R d))), (2, .long (lN (ylv p R d))), (4, .int (nI d)), (5, .int (nI (R (d + 1)))), (6, .int (nI (dsum p (R (d + 1)) (yv p R d) (q + 1)))), (7, .int (nI (q + 1)))] dX10_leastWay_74 6 rfl (nI_1 q) (by decide) rfl ?_
            refine e_goto (t := 42) dX10_leastWay_77 (by decide) ?_
            exact ih2 (q + 1) (by omega)
      refine e_iload dX10_leastWay_7 3 rfl ?_
      refine e_aload_n dX10_leastWay_9 rfl 0 rfl ?_
      refine e_getR dX10_leastWay_10 lkX10_46 tt_0 rfl ?_
      refine e_getR dX10_leastWay_13 lkX10_89 (store_0 store_32_) rfl ?_
      refine e_getI dX10_leastWay_16 lkX10_130 (nodes_0 (store_n store_32_)) rfl ?_
      rw [hC.2.1]
      refine e_icmp_ge (t := 108) dX10_leastWay_19 (by decide) (fun h19 => ?_) (fun h19 => ?_)
      · skip
        exact absurd ((i_le (by omega) (by omega)).mp (show nI (S 0 1) ≤ nI d from h19)) (by omega)
      · skip
        refine e_aload_n dX10_leastWay_22 rfl 0 rfl ?_
        refine e_getR dX10_leastWay_23 lkX10_67 tt_0 rfl ?_
        refine e_getR dX10_leastWay_26 lkX10_311 (span_0 span_109_) rfl ?_
        refine e_iload dX10_leastWay_29 3 rfl ?_
        refine e_iconst (v := 1) dX10_leastWay_31 rfl ?_
        refine e_iadd dX10_leastWay_32 ?_
        rw [nI_1 d]
        refine e_iald dX10_leastWay_33 (span_1 span_109_) (vp_in_nI (by omega) (by decide)) ?_
        rw [i_cl (show d + 1 < 2 ^ 31 by omega), hrow]
        refine e_istore [(0, .ref 0), (1, .int (nI (yv p R d))), (2, .long (lN (ylv p R d))), (4, .int (nI d)), (5, .int (nI (R (d + 1))))] dX10_leastWay_34 (by decide) rfl ?_
        refine e_iconst (v := 0) dX10_leastWay_36 rfl ?_
        refine e_istore [(0, .ref 0), (1, .int (nI (yv p R d))), (2, .long (lN (ylv p R d))), (4, .int (nI d)), (5, .int (nI (R (d + 1)))), (6, .int (nI (dsum p (R (d + 1)) (yv p R d) 0)))] dX10_leastWay_37 (by decide) rfl ?_
        refine e_iconst (v := 0) dX10_leastWay_39 rfl ?_
        refine e_istore [(0, .ref 0), (1, .int (nI (yv p R d))), (2, .long (lN (ylv p R d))), (4, .int (nI d)), (5, .int (nI (R (d + 1)))), (6, .int (nI (dsum p (R (d + 1)) (yv p R d) 0))), (7, .int (nI 0))] dX10_leastWay_40 (by decide) rfl ?_
        exact inner (d + 1) 0 (by omega)
  refine e_iconst (v := 1) dX10_leastWay_0 rfl ?_
  refine e_istore_n [(0, .ref 0), (1, .int (nI (yv p R 0)))] dX10_leastWay_1 rfl (by decide) rfl ?_
  refine e_lconst (v := 0) dX10_leastWay_2 rfl ?_
  refine e_lstore_n [(0, .ref 0), (1, .int (nI (yv p R 0))), (2, .long (lN (ylv p R 0)))] dX10_leastWay_3 rfl (by decide) rfl ?_
  refine e_iconst (v := 0) dX10_leastWay_4 rfl ?_
  refine e_istore [(0, .ref 0), (1, .int (nI (yv p R 0))), (2, .long (lN (ylv p R 0))), (4, .int (nI 0))] dX10_leastWay_5 (by decide) rfl ?_
  exact outer (S 0 1) 0 (by omega)

set_option maxRecDepth 100000 in
theorem c10_ways {p : Nat} (hp : gP p) {S : ns_T} (hV : VS S) (hU : PSV S) {w : Int32} {σ : ex_S} {μ : ex_L}(hF : FC σ p) (hC : NC σ 33 S) (hG : PG σ 52 S 10) : Cg 7 yX10_ways cX10_ways 3 (some .long) [.ref 0, .int w] TT σ μ (fun z' σ' μ' => z' = nways p S w ∧ (∀ i, i ≠ 109 → i ≠ 110 → σ' i = σ i) ∧ μ' = μ) := by
  refine Cl_of (by decide +kernel) (Nat.le_of_ble_eq_true rfl) ?_
  show Ev RX10 cX10_ways 3 7 0 0 "ways" (some .long) ev_ext _ _ 0 0 0 [(0, .ref 0), (1, .int w)] [] TT σ μ
  refine e_aload_n dX10_ways_0 rfl 0 rfl ?_
  refine e_callVi dX10_ways_1 cvX10_285 rfl tt_0 rfl (c10_gatherSeen hp hV hU hF hC hG) (Nat.le_of_ble_eq_true rfl) (Nat.le_refl _) (Nat.le_refl _) rfl (Nat.le_of_ble_eq_true rfl) (fun r1 s1 m1 q1 => ?_)
  obtain ⟨q1, ⟨R, p1, hI⟩, f1, g1⟩ := q1
  rw [g1]
  have hC1 : NC s1 33 S := hC.to hV (fun k h1 h2 => f1 k (by omega) (by omega))
  have hF1 : FC s1 p := hF.to (f1 1 (by decide) (by decide)) (f1 2 (by decide) (by decide))
  refine e_istore_n [(0, .ref 0), (1, .int w), (2, .int r1)] dX10_ways_4 rfl (by decide) rfl ?_
  refine e_iload_n dX10_ways_5 rfl 1 rfl ?_
  refine e_if_ne (t := 40) dX10_ways_6 (by decide) (fun h6 => ?_) (fun h6 => ?_)
  · skip
    refine e_iload_n dX10_ways_40 rfl 1 rfl ?_
    refine e_iconst (v := 1) dX10_ways_41 rfl ?_
    refine e_icmp_ne (t := 56) dX10_ways_42 (by decide) (fun h42 => ?_) (fun h42 => ?_)
    · skip
      skip
      refine e_ldc2 dX10_ways_56 kcX10_294 ?_
      refine e_retl dX10_ways_59 (Nat.le_refl _) (Nat.le_refl _) ?_
      have hr : nways p S w = -9223372036854775808 := (if_neg h6).trans (if_neg h42)
      rw [hr]
      exact ⟨rfl, f1, rfl⟩
    · skip
      refine e_iload_n dX10_ways_45 rfl 2 rfl ?_
      refine e_if_eq (t := 56) dX10_ways_46 (by decide) (fun h46 => ?_) (fun h46 => ?_)
      · skip
        have hcc : ¬ Cons p (Wl S) := by
          rcases q1 with q | q
          · exact absurd (q.1.symm.trans h46) (by decide)
          · exact q.2
        refine e_ldc2 dX10_ways_56 kcX10_294 ?_
        refine e_retl dX10_ways_59 (Nat.le_refl _) (Nat.le_refl _) ?_
        have hr : nways p S w = -9223372036854775808 := (if_neg h6).trans ((if_pos h42).trans (cif_f hcc))
        rw [hr]
        exact ⟨rfl, f1, rfl⟩
      · skip
        have hcc : Cons p (Wl S) := by
          rcases q1 with q | q
          · exact q.2
          · exact absurd q.1 h46
        refine e_aload_n dX10_ways_49 rfl 0 rfl ?_
        refine e_callVl dX10_ways_50 cvX10_290 rfl tt_0 rfl (c10_leastWay hp hV hF1 hC1 p1 hI.2.1) (Nat.le_of_ble_eq_true rfl) (Nat.le_refl _) (Nat.le_refl _) rfl (Nat.le_of_ble_eq_true rfl) (fun r50 s50 m50 q50 => ?_)
        obtain ⟨q50, e50, g50⟩ := q50
        rw [e50, g50]
        refine e_goto (t := 59) dX10_ways_53 (by decide) ?_
        refine e_retl dX10_ways_59 (Nat.le_refl _) (Nat.le_refl _) ?_
        have hr : nways p S w = lN (ylv p R (S 0 1)) := (if_neg h6).trans ((if_pos h42).trans ((cif_t hcc).trans (by rw [ylv_uniq hp (nR_I hp hV hU) hI hcc _ hV.2.1])))
        rw [hr]
        exact ⟨q50, f1, rfl⟩
  · skip
    refine e_iload_n dX10_ways_9 rfl 2 rfl ?_
    refine e_if_eq (t := 38) dX10_ways_10 (by decide) (fun h10 => ?_) (fun h10 => ?_)
    · skip
      have hcc : ¬ Cons p (Wl S) := by
        rcases q1 with q | q
        · exact absurd (q.1.symm.trans h10) (by decide)
        · exact q.2
      refine e_lconst (v := 0) dX10_ways_38 rfl ?_
      refine e_retl dX10_ways_39 (Nat.le_refl _) (Nat.le_refl _) ?_
      have hr : nways p S w = 0 := (if_pos h6).trans (cif_f hcc)
      rw [hr]
      exact ⟨rfl, f1, rfl⟩
    · skip
      have hcc : Cons p (Wl S) := by
        rcases q1 with q | q
        · exact q.2
        · exact absurd q.1 h10
      refine e_lconst (v := 1) dX10_ways_13 rfl ?_
      refine e_iconst (v := 4) dX10_ways_14 rfl ?_
      refine e_aload_n dX10_ways_15 rfl 0 rfl ?_
      refine e_getR dX10_ways_16 lkX10_46 tt_0 rfl ?_
      refine e_getR dX10_ways_19 lkX10_89 (store_0 store_32_) rfl ?_
      refine e_getI dX10_ways_22 lkX10_130 (nodes_0 (store_n store_32_)) rfl ?_
      refine e_aload_n dX10_ways_25 rfl 0 rfl ?_
      refine e_getR dX10_ways_26 lkX10_67 tt_0 rfl ?_
      refine e_getI dX10_ways_29 lkX10_289 (span_0 span_109_) rfl ?_
      rw [hC1.2.1, p1.2]
      refine e_isub dX10_ways_32 ?_
      refine e_imul dX10_ways_33 ?_
      refine e_lshl dX10_ways_34 ?_
      refine e_goto (t := 39) dX10_ways_35 (by decide) ?_
      refine e_retl dX10_ways_39 (Nat.le_refl _) (Nat.le_refl _) ?_
      have hr : nways p S w = ((1 : Int64) <<< (((4 : Int32) * (nI (S 0 1) - nI (grk p (Wl S)))).toInt64 &&& 63)) := (if_pos h6).trans (cif_t hcc)
      rw [hr]
      exact ⟨rfl, f1, rfl⟩

set_option maxRecDepth 100000 in
theorem c10_can {p : Nat} (hp : gP p) {S : ns_T} (hV : VS S) (hU : PSV S) {x : Int32} {σ : ex_S} {μ : ex_L}(hF : FC σ p) (hC : NC σ 33 S) (hG : PG σ 52 S 10) : Ci 7 yX10_can cX10_can 4 (some .int) [.ref 0, .int x] TT σ μ (fun z' σ' μ' => z' = ncan2 p S x ∧ (∀ i, i ≠ 109 → i ≠ 110 → σ' i = σ i) ∧ μ' = μ) := by
  refine Cl_of (by decide +kernel) (Nat.le_of_ble_eq_true rfl) ?_
  show Ev RX10 cX10_can 4 7 0 0 "can" (some .int) ev_ext _ _ 0 0 0 [(0, .ref 0), (1, .int x)] [] TT σ μ
  have hn := hV.1
  have hd := hV.2.1
  refine e_aload_n dX10_can_0 rfl 0 rfl ?_
  refine e_getR dX10_can_1 lkX10_46 tt_0 rfl ?_
  refine e_getR dX10_can_4 lkX10_89 (store_0 store_32_) rfl ?_
  refine e_iload_n dX10_can_7 rfl 1 rfl ?_
  refine e_callVi dX10_can_8 cvX10_165 rfl (nodes_0 (store_n store_32_)) rfl (c3_hasN nodes_33_ hC x) (Nat.le_of_ble_eq_true rfl) (Nat.le_refl _) (Nat.le_refl _) rfl (Nat.le_of_ble_eq_true rfl) (fun r8 s8 m8 q8 => ?_)
  obtain ⟨q8, e8, g8⟩ := q8
  rw [e8, g8]
  clear e8 g8 s8 m8
  refine e_if_ne (t := 16) dX10_can_11 (by decide) (fun h11 => ?_) (fun h11 => ?_)
  · skip
    rw [q8, bI_eq0] at h11
    have hP := Classical.not_not.mp h11
    obtain ⟨k, hk, rfl⟩ := i_ofl (x := x) (m := S 0 0) (by omega) hP.1 (show _ < nI (S 0 0) from hP.2)
    refine e_aload_n dX10_can_16 rfl 0 rfl ?_
    refine e_callVi dX10_can_17 cvX10_285 rfl tt_0 rfl (c10_gatherSeen hp hV hU hF hC hG) (Nat.le_of_ble_eq_true rfl) (Nat.le_refl _) (Nat.le_refl _) rfl (Nat.le_of_ble_eq_true rfl) (fun r17 s17 m17 q17 => ?_)
    obtain ⟨q17, ⟨R, p1, hI⟩, f1, g1⟩ := q17
    rw [g1]
    have hC1 : NC s17 33 S := hC.to hV (fun k h1 h2 => f1 k (by omega) (by omega))
    have hF1 : FC s17 p := hF.to (f1 1 (by decide) (by decide)) (f1 2 (by decide) (by decide))
    refine e_if_ne (t := 25) dX10_can_20 (by decide) (fun h20 => ?_) (fun h20 => ?_)
    · skip
      have hcc : Cons p (Wl S) := by
        rcases q17 with q | q
        · exact q.2
        · exact absurd q.1 h20
      have hl24 := lf_lt hp (R := R) 6 (cw (S 5 k) 0 (S 0 1)) (cw_lt hd (by decide))
      refine e_aload_n dX10_can_25 rfl 0 rfl ?_
      refine e_getR dX10_can_26 lkX10_67 tt_0 rfl ?_
      refine e_aload_n dX10_can_29 rfl 0 rfl ?_
      refine e_iload_n dX10_can_30 rfl 1 rfl ?_
      refine e_callVi dX10_can_31 cvX10_302 rfl tt_0 rfl (c10_seenForm hV hk hC1) (Nat.le_of_ble_eq_true rfl) (Nat.le_refl _) (Nat.le_refl _) rfl (Nat.le_of_ble_eq_true rfl) (fun r31 s31 m31 q31 => ?_)
      obtain ⟨q31, e31, g31⟩ := q31
      rw [e31, g31]
      clear e31 g31 s31 m31
      rw [q31]
      refine e_callVi dX10_can_34 cvX10_315 rfl (span_0 span_109_) rfl (c7_left span_109_ hp (w := cw (S 5 k) 0 (S 0 1)) (cw_lt hd (by decide)) hF1 hI.2.1 p1.1) (Nat.le_of_ble_eq_true rfl) (Nat.le_refl _) (Nat.le_refl _) rfl (Nat.le_of_ble_eq_true rfl) (fun r34 s34 m34 q34 => ?_)
      obtain ⟨q34, e34, g34⟩ := q34
      rw [e34, g34]
      rw [q34]
      refine e_istore_n [(0, .ref 0), (1, .int (nI k)), (2, .int (nI (lf p R 6 (cw (S 5 k) 0 (S 0 1)))))] dX10_can_37 rfl (by decide) rfl ?_
      refine e_iload_n dX10_can_38 rfl 2 rfl ?_
      refine e_iconst (v := 4) dX10_can_39 rfl ?_
      refine e_iushr dX10_can_40 ?_
      rw [show ((nI (lf p R 6 (cw (S 5 k) 0 (S 0 1)))).toUInt32 >>> ((4 : Int32).toUInt32 &&& Int32.toUInt32 31)).toInt32 = nI (lf p R 6 (cw (S 5 k) 0 (S 0 1)) / 16) from i_ushr (i := 4) (by omega) (by decide)]
      refine e_if_eq (t := 48) dX10_can_41 (by decide) (fun h41 => ?_) (fun h41 => ?_)
      · skip
        have hl0 : lf p R 6 (cw (S 5 k) 0 (S 0 1)) / 16 = 0 := (i_eq (b := 0) (by omega) (by decide)).mp h41
        refine e_iconst (v := 0) dX10_can_48 rfl ?_
        refine e_istore_n [(0, .ref 0), (1, .int (nI k)), (2, .int (nI (lf p R 6 (cw (S 5 k) 0 (S 0 1))))), (3, .int 0)] dX10_can_49 rfl (by decide) rfl ?_
        refine e_iload_n dX10_can_50 rfl 3 rfl ?_
        refine e_if_eq (t := 60) dX10_can_51 (by decide) (fun h51 => ?_) (fun h51 => ?_)
        · skip
          refine e_iconst (v := 1) dX10_can_60 rfl ?_
          refine e_iload_n dX10_can_61 rfl 2 rfl ?_
          refine e_ishl dX10_can_62 ?_
          skip
          refine e_reti dX10_can_63 ev_nwi (Nat.le_refl _) (Nat.le_refl _) ?_
          have hr : ncan2 p S (nI k) = nI (2 ^ lf p R 6 (cw (S 5 k) 0 (S 0 1))) := by
            unfold ncan2
            rw [cif_t hP, i_cl (show k < 2 ^ 31 by omega), nset_cg (Q := fun n => n = lf p R 6 (cw (S 5 k) 0 (S 0 1))) (fun n hn9 => can_one hp hI hcc hd hn9 hl0), nset_one, if_pos (show lf p R 6 (cw (S 5 k) 0 (S 0 1)) < 16 by omega)]
          rw [hr]
          rw [i_shl1 (by omega)]
          exact ⟨rfl, f1, rfl⟩
        · skip
          exact absurd rfl h51
      · skip
        have hl0 : ¬ lf p R 6 (cw (S 5 k) 0 (S 0 1)) / 16 = 0 := fun q => h41 (by rw [q]; rfl)
        refine e_iconst (v := 1) dX10_can_44 rfl ?_
        refine e_goto (t := 49) dX10_can_45 (by decide) ?_
        refine e_istore_n [(0, .ref 0), (1, .int (nI k)), (2, .int (nI (lf p R 6 (cw (S 5 k) 0 (S 0 1))))), (3, .int 1)] dX10_can_49 rfl (by decide) rfl ?_
        refine e_iload_n dX10_can_50 rfl 3 rfl ?_
        refine e_if_eq (t := 60) dX10_can_51 (by decide) (fun h51 => ?_) (fun h51 => ?_)
        · skip
          exact absurd h51 (by decide)
        · skip
          refine e_ldcw dX10_can_54 kcX10_318 ?_
          refine e_goto (t := 63) dX10_can_57 (by decide) ?_
          skip
          refine e_reti dX10_can_63 ev_nwi (Nat.le_refl _) (Nat.le_refl _) ?_
          have hr : ncan2 p S (nI k) = 65535 := by
            unfold ncan2
            rw [cif_t hP, i_cl (show k < 2 ^ 31 by omega), nset_cg (Q := fun _ => True) (fun n hn9 => ⟨fun _ => trivial, fun _ => can_hang hp hI hcc hd hn9 hl0⟩), nset_all]
            rfl
          rw [hr]
          exact ⟨rfl, f1, rfl⟩
    · skip
      have hcc : ¬ Cons p (Wl S) := by
        rcases q17 with q | q
        · exact absurd (q.1.symm.trans h20) (by decide)
        · exact q.2
      refine e_iconst (v := 0) dX10_can_23 rfl ?_
      refine e_reti dX10_can_24 ev_nwi (Nat.le_refl _) (Nat.le_refl _) ?_
      have hr : ncan2 p S (nI k) = 0 := by
        unfold ncan2
        rw [cif_t hP, i_cl (show k < 2 ^ 31 by omega), nset_cg (Q := fun _ => False) (fun n _ => ⟨fun q => hcc (fun z => q (sp_cons hp z)), fun q => q.elim⟩), nset_no]
        rfl
      rw [hr]
      exact ⟨rfl, f1, rfl⟩
  · skip
    rw [q8] at h11
    have h11 := bI_eq0.mp h11
    refine e_iconst (v := (-1)) dX10_can_14 rfl ?_
    refine e_reti dX10_can_15 ev_nwi (Nat.le_refl _) (Nat.le_refl _) ?_
    have hr : ncan2 p S x = -1 := cif_f h11
    rw [hr]
    exact ⟨rfl, fun _ _ _ => rfl, rfl⟩
