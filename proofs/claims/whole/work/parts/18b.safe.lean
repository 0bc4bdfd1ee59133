set_option maxRecDepth 100000 in
theorem c10_tellAll {p : Nat} (hp : gP p) {S : ns_T} (hV : VS S) {t : Nat} (ht : t < 2 ^ S 0 0) {σ : ex_S} {μ : ex_L}(hC : NC σ 33 S) (hK : RKI σ p S) : Ci 3 yX10_tellAllData cX10_tellAllData 2 (some .boolean) [.ref 0, .int (nI t)] TT σ μ (fun z' σ' μ' => z' = bI (nrk p S (t ||| S 0 2) = nrk p S t) ∧ σ' = σ ∧ μ' = μ) := by
  refine Cl_of (by decide +kernel) (Nat.le_of_ble_eq_true rfl) ?_
  show Ev RX10 cX10_tellAllData 2 3 0 0 "tellAllData" (some .boolean) ev_ext _ _ 0 0 0 [(0, .ref 0), (1, .int (nI t))] [] TT σ μ
  refine e_aload_n dX10_tellAllData_0 rfl 0 rfl ?_
  refine e_getR dX10_tellAllData_1 lkX10_30 tt_0 rfl ?_
  refine e_iload_n dX10_tellAllData_4 rfl 1 rfl ?_
  refine e_aload_n dX10_tellAllData_5 rfl 0 rfl ?_
  refine e_getR dX10_tellAllData_6 lkX10_46 tt_0 rfl ?_
  refine e_getR dX10_tellAllData_9 lkX10_89 (store_0 store_32_) rfl ?_
  refine e_getI dX10_tellAllData_12 lkX10_253 (nodes_0 (store_n store_32_)) rfl ?_
  rw [hC.2.2.1]
  refine e_ior dX10_tellAllData_15 ?_
  rw [fa_or]
  refine e_callVi dX10_tellAllData_16 cvX10_244 rfl tt_5 rfl (c6_rankN hp hV (t := t ||| S 0 2) (Nat.or_lt_two_pow ht hV.2.2.2.2.1) hK) (Nat.le_of_ble_eq_true rfl) (Nat.le_refl _) (Nat.le_refl _) rfl (Nat.le_of_ble_eq_true rfl) (fun r16 s16 m16 q16 => ?_)
  obtain ⟨q16, e16, g16⟩ := q16
  rw [e16, g16]
  clear e16 g16 s16 m16
  refine e_aload_n dX10_tellAllData_19 rfl 0 rfl ?_
  refine e_getR dX10_tellAllData_20 lkX10_30 tt_0 rfl ?_
  refine e_iload_n dX10_tellAllData_23 rfl 1 rfl ?_
  refine e_callVi dX10_tellAllData_24 cvX10_244 rfl tt_5 rfl (c6_rankN hp hV (t := t) ht hK) (Nat.le_of_ble_eq_true rfl) (Nat.le_refl _) (Nat.le_refl _) rfl (Nat.le_of_ble_eq_true rfl) (fun r24 s24 m24 q24 => ?_)
  obtain ⟨q24, e24, g24⟩ := q24
  rw [e24, g24]
  clear e24 g24 s24 m24
  refine e_icmp_ne (t := 34) dX10_tellAllData_27 (by decide) (fun h27 => ?_) (fun h27 => ?_)
  · skip
    have l1 := nrk_le (p := p) S t
    have l2 := nrk_le (p := p) S (t ||| S 0 2)
    have ln := hV.1
    refine e_iconst (v := 0) dX10_tellAllData_34 rfl ?_
    refine e_reti dX10_tellAllData_35 ev_nw0 (Nat.le_refl _) (Nat.le_refl _) ?_
    refine ⟨?_, rfl, rfl⟩
    rw [q16, q24] at h27
    exact (bI_f (fun q => h27 (congrArg nI q))).symm
  · skip
    have l1 := nrk_le (p := p) S t
    have l2 := nrk_le (p := p) S (t ||| S 0 2)
    have ln := hV.1
    refine e_iconst (v := 1) dX10_tellAllData_30 rfl ?_
    refine e_goto (t := 35) dX10_tellAllData_31 (by decide) ?_
    refine e_reti dX10_tellAllData_35 ev_nw1 (Nat.le_refl _) (Nat.le_refl _) ?_
    refine ⟨?_, rfl, rfl⟩
    rw [q16, q24] at h27
    exact (bI_t ((i_eq (by omega) (by omega)).mp h27)).symm

set_option maxRecDepth 100000 in
theorem c10_safeSets {p : Nat} (hp : gP p) {S : ns_T} (hV : VS S) {e : Nat} (he : e < 2 ^ 31) {σ : ex_S} {μ : ex_L}(hC : NC σ 33 S) (hK : RKI σ p S) : Ci 5 yX10_safeSets cX10_safeSets 5 (some .int) [.ref 0, .int (nI e)] TT σ μ (fun z' σ' μ' => z' = nI (nsafe p S e) ∧ σ' = σ ∧ μ' = μ) := by
  refine Cl_of (by decide +kernel) (Nat.le_of_ble_eq_true rfl) ?_
  show Ev RX10 cX10_safeSets 5 5 0 0 "safeSets" (some .int) ev_ext _ _ 0 0 0 [(0, .ref 0), (1, .int (nI e))] [] TT σ μ
  have hn := hV.1
  have h2n := two_n hV
  have hal : nall S < 2 ^ S 0 0 := by unfold nall; have := Nat.two_pow_pos (S 0 0); omega
  have hpn : nall S + 1 = 2 ^ S 0 0 := by unfold nall; have := Nat.two_pow_pos (S 0 0); omega
  have loop : ∀ (m s : Nat), s + m = 2 ^ S 0 0 → Ev RX10 cX10_safeSets 5 5 0 0 "safeSets" (some .int) ev_ext TT.length (fun v9 T9 σ9 μ9 => T9 = TT ∧ ∃ z9, v9 = some (.int z9) ∧ (fun z' σ' μ' => z' = nI (nsafe p S e) ∧ σ' = σ ∧ μ' = μ) z9 σ9 μ9) 0 0 16 [(0, .ref 0), (1, .int (nI e)), (2, .int (nI (nall S))), (3, .int (nI (ncnt (SafeP p S e) s))), (4, .int (nI s))] [] TT σ μ := by
    intro m
    induction m with
    | zero =>
      intro s hs
      obtain rfl : s = nall S + 1 := by omega
      refine e_iload dX10_safeSets_16 4 rfl ?_
      refine e_iload_n dX10_safeSets_18 rfl 2 rfl ?_
      refine e_icmp_gt (t := 53) dX10_safeSets_19 (by decide) (fun h19 => ?_) (fun h19 => ?_)
      · skip
        refine e_iload_n dX10_safeSets_53 rfl 3 rfl ?_
        refine e_reti dX10_safeSets_54 ev_nwi (Nat.le_refl _) (Nat.le_refl _) ?_
        exact ⟨by rw [hpn]; rfl, rfl, rfl⟩
      · skip
        exact absurd (show nI (nall S) < nI (nall S + 1) from (i_lt (by omega) (by omega)).mpr (by omega)) h19
    | succ m ih =>
      intro s hs
      have hps := npop_le s
      have hcl := ncnt_le (SafeP p S e) s
      refine e_iload dX10_safeSets_16 4 rfl ?_
      refine e_iload_n dX10_safeSets_18 rfl 2 rfl ?_
      refine e_icmp_gt (t := 53) dX10_safeSets_19 (by decide) (fun h19 => ?_) (fun h19 => ?_)
      · skip
        exact absurd ((i_lt (by omega) (by omega)).mp (show nI (nall S) < nI s from h19)) (by omega)
      · skip
        refine e_iload dX10_safeSets_22 4 rfl ?_
        refine e_callSi dX10_safeSets_24 cvX10_214 rfl (cJ_pop (t := s) (by omega)) (Nat.le_of_ble_eq_true rfl) (Nat.le_refl _) (Nat.le_refl _) rfl (Nat.le_of_ble_eq_true rfl) (fun r24 s24 m24 q24 => ?_)
        obtain ⟨q24, e24, g24⟩ := q24
        rw [e24, g24]
        clear e24 g24 s24 m24
        refine e_iload_n dX10_safeSets_27 rfl 1 rfl ?_
        refine e_icmp_ne (t := 47) dX10_safeSets_28 (by decide) (fun h28 => ?_) (fun h28 => ?_)
        · skip
          skip
          refine e_iinc (nI (s + 1)) [(0, .ref 0), (1, .int (nI e)), (2, .int (nI (nall S))), (3, .int (nI (ncnt (SafeP p S e) s))), (4, .int (nI (s + 1)))] dX10_safeSets_47 4 rfl (nI_1 s) (by decide) rfl ?_
          refine e_goto (t := 16) dX10_safeSets_50 (by decide) ?_
          refine e_lv [(0, .ref 0), (1, .int (nI e)), (2, .int (nI (nall S))), (3, .int (nI (ncnt (SafeP p S e) s))), (4, .int (nI (s + 1)))] (List.forall_mem_cons.mpr ⟨List.mem_of_getElem? (i := 0) rfl, List.forall_mem_cons.mpr ⟨List.mem_of_getElem? (i := 1) rfl, List.forall_mem_cons.mpr ⟨List.mem_of_getElem? (i := 2) rfl, List.forall_mem_cons.mpr ⟨List.mem_of_getElem? (i := 3) rfl, List.forall_mem_cons.mpr ⟨List.mem_of_getElem? (i := 4) rfl, fun _ h => absurd h List.not_mem_nil⟩⟩⟩⟩⟩) ?_
          have h9 := ih (s + 1) (by omega)
          rw [ncnt_f (fun q => h28 (by rw [q24, q.1]))] at h9
          exact h9
        · skip
          refine e_aload_n dX10_safeSets_31 rfl 0 rfl ?_
          refine e_iload_n dX10_safeSets_32 rfl 2 rfl ?_
          refine e_iload dX10_safeSets_33 4 rfl ?_
          refine e_iconst (v := (-1)) dX10_safeSets_35 rfl ?_
          refine e_ixor dX10_safeSets_36 ?_
          refine e_iand dX10_safeSets_37 ?_
          rw [not_i _ _ (by omega)]
          refine e_callVi dX10_safeSets_38 cvX10_247 rfl tt_0 rfl (c10_tellAll hp hV (t := nleft S s) (nleft_lt s) hC hK) (Nat.le_of_ble_eq_true rfl) (Nat.le_refl _) (Nat.le_refl _) rfl (Nat.le_of_ble_eq_true rfl) (fun r38 s38 m38 q38 => ?_)
          obtain ⟨q38, e38, g38⟩ := q38
          rw [e38, g38]
          clear e38 g38 s38 m38
          refine e_if_eq (t := 47) dX10_safeSets_41 (by decide) (fun h41 => ?_) (fun h41 => ?_)
          · skip
            skip
            refine e_iinc (nI (s + 1)) [(0, .ref 0), (1, .int (nI e)), (2, .int (nI (nall S))), (3, .int (nI (ncnt (SafeP p S e) s))), (4, .int (nI (s + 1)))] dX10_safeSets_47 4 rfl (nI_1 s) (by decide) rfl ?_
            refine e_goto (t := 16) dX10_safeSets_50 (by decide) ?_
            refine e_lv [(0, .ref 0), (1, .int (nI e)), (2, .int (nI (nall S))), (3, .int (nI (ncnt (SafeP p S e) s))), (4, .int (nI (s + 1)))] (List.forall_mem_cons.mpr ⟨List.mem_of_getElem? (i := 0) rfl, List.forall_mem_cons.mpr ⟨List.mem_of_getElem? (i := 1) rfl, List.forall_mem_cons.mpr ⟨List.mem_of_getElem? (i := 2) rfl, List.forall_mem_cons.mpr ⟨List.mem_of_getElem? (i := 3) rfl, List.forall_mem_cons.mpr ⟨List.mem_of_getElem? (i := 4) rfl, fun _ h => absurd h List.not_mem_nil⟩⟩⟩⟩⟩) ?_
            have h9 := ih (s + 1) (by omega)
            rw [ncnt_f (fun q => by rw [q38, bI_eq0] at h41; exact h41 q.2)] at h9
            exact h9
          · skip
            skip
            refine e_iinc (nI (ncnt (SafeP p S e) s + 1)) [(0, .ref 0), (1, .int (nI e)), (2, .int (nI (nall S))), (3, .int (nI (ncnt (SafeP p S e) s + 1))), (4, .int (nI s))] dX10_safeSets_44 3 rfl (nI_1 _) (by decide) rfl ?_
            refine e_iinc (nI (s + 1)) [(0, .ref 0), (1, .int (nI e)), (2, .int (nI (nall S))), (3, .int (nI (ncnt (SafeP p S e) s + 1))), (4, .int (nI (s + 1)))] dX10_safeSets_47 4 rfl (nI_1 s) (by decide) rfl ?_
            refine e_goto (t := 16) dX10_safeSets_50 (by decide) ?_
            have hy : SafeP p S e s := ⟨(i_eq (by omega) he).mp (show nI (npop s) = nI e from by rw [← q24]; exact h28), by rw [q38, bI_eq0] at h41; exact Classical.not_not.mp h41⟩
            have h9 := ih (s + 1) (by omega)
            rw [ncnt_t hy] at h9
            exact h9
  refine e_aload_n dX10_safeSets_0 rfl 0 rfl ?_
  refine e_getR dX10_safeSets_1 lkX10_46 tt_0 rfl ?_
  refine e_getR dX10_safeSets_4 lkX10_89 (store_0 store_32_) rfl ?_
  refine e_callVi dX10_safeSets_7 cvX10_210 rfl (nodes_0 (store_n store_32_)) rfl (c3_everyoneN nodes_33_ hV hC) (Nat.le_of_ble_eq_true rfl) (Nat.le_refl _) (Nat.le_refl _) rfl (Nat.le_of_ble_eq_true rfl) (fun r7 s7 m7 q7 => ?_)
  obtain ⟨q7, e7, g7⟩ := q7
  rw [e7, g7]
  clear e7 g7 s7 m7
  rw [q7]
  refine e_istore_n [(0, .ref 0), (1, .int (nI e)), (2, .int (nI (nall S)))] dX10_safeSets_10 rfl (by decide) rfl ?_
  refine e_iconst (v := 0) dX10_safeSets_11 rfl ?_
  refine e_istore_n [(0, .ref 0), (1, .int (nI e)), (2, .int (nI (nall S))), (3, .int 0)] dX10_safeSets_12 rfl (by decide) rfl ?_
  refine e_iconst (v := 0) dX10_safeSets_13 rfl ?_
  refine e_istore [(0, .ref 0), (1, .int (nI e)), (2, .int (nI (nall S))), (3, .int 0), (4, .int 0)] dX10_safeSets_14 (by decide) rfl ?_
  exact loop (2 ^ S 0 0) 0 (by omega)

set_option maxRecDepth 100000 in
theorem c10_allSets {S : ns_T} (hV : VS S) {e : Nat} (he : e ≤ S 0 0) {σ : ex_S} {μ : ex_L}(hC : NC σ 33 S) : Ci 2 yX10_allSets cX10_allSets 4 (some .int) [.ref 0, .int (nI e)] TT σ μ (fun z' σ' μ' => z' = nI (nbin (S 0 0) e 0 1) ∧ σ' = σ ∧ μ' = μ) := by
  refine Cl_of (by decide +kernel) (Nat.le_of_ble_eq_true rfl) ?_
  show Ev RX10 cX10_allSets 4 2 0 0 "allSets" (some .int) ev_ext _ _ 0 0 0 [(0, .ref 0), (1, .int (nI e))] [] TT σ μ
  have hn := hV.1
  have loop : ∀ (m i : Nat), i + m = e → Ev RX10 cX10_allSets 4 2 0 0 "allSets" (some .int) ev_ext TT.length (fun v9 T9 σ9 μ9 => T9 = TT ∧ ∃ z9, v9 = some (.int z9) ∧ (fun z' σ' μ' => z' = nI (nbin (S 0 0) e 0 1) ∧ σ' = σ ∧ μ' = μ) z9 σ9 μ9) 0 0 4 [(0, .ref 0), (1, .int (nI e)), (2, .int (nI (nbin (S 0 0) i 0 1))), (3, .int (nI i))] [] TT σ μ := by
    intro m
    induction m with
    | zero =>
      intro i hi
      obtain rfl : i = e := by omega
      refine e_iload_n dX10_allSets_4 rfl 3 rfl ?_
      refine e_iload_n dX10_allSets_5 rfl 1 rfl ?_
      refine e_icmp_ge (t := 34) dX10_allSets_6 (by decide) (fun h6 => ?_) (fun h6 => ?_)
      · skip
        refine e_iload_n dX10_allSets_34 rfl 2 rfl ?_
        refine e_reti dX10_allSets_35 ev_nwi (Nat.le_refl _) (Nat.le_refl _) ?_
        exact ⟨rfl, rfl, rfl⟩
      · skip
        exact absurd (show nI i ≤ nI i from (i_le (by omega) (by omega)).mpr (by omega)) h6
    | succ m ih =>
      intro i hi
      have hb := nbin_le (S 0 0) (by omega) i (by omega)
      have hs := nbin_succ (S 0 0) i 0 1
      rw [Nat.zero_add] at hs
      have hmul : nbin (S 0 0) i 0 1 * (S 0 0 - i) ≤ 252 * 10 := Nat.mul_le_mul hb (by omega)
      refine e_iload_n dX10_allSets_4 rfl 3 rfl ?_
      refine e_iload_n dX10_allSets_5 rfl 1 rfl ?_
      refine e_icmp_ge (t := 34) dX10_allSets_6 (by decide) (fun h6 => ?_) (fun h6 => ?_)
      · skip
        exact absurd ((i_le (by omega) (by omega)).mp (show nI e ≤ nI i from h6)) (by omega)
      · skip
        refine e_iload_n dX10_allSets_9 rfl 2 rfl ?_
        refine e_aload_n dX10_allSets_10 rfl 0 rfl ?_
        refine e_getR dX10_allSets_11 lkX10_46 tt_0 rfl ?_
        refine e_getR dX10_allSets_14 lkX10_89 (store_0 store_32_) rfl ?_
        refine e_getI dX10_allSets_17 lkX10_92 (nodes_0 (store_n store_32_)) rfl ?_
        refine e_iload_n dX10_allSets_20 rfl 3 rfl ?_
        rw [hC.1]
        refine e_isub dX10_allSets_21 ?_
        rw [i_sub (by omega)]
        refine e_imul dX10_allSets_22 ?_
        rw [i_mul]
        refine e_iload_n dX10_allSets_23 rfl 3 rfl ?_
        refine e_iconst (v := 1) dX10_allSets_24 rfl ?_
        refine e_iadd dX10_allSets_25 ?_
        rw [show nI i + 1 = nI (i + 1) from nI_1 i]
        refine e_idiv dX10_allSets_26 (fun q => absurd ((i_eq (by omega) (by decide)).mp (show nI (i + 1) = nI 0 from q)) (by omega)) ?_
        rw [pk_div (by omega) (by omega) (by omega), ← hs]
        refine e_istore_n [(0, .ref 0), (1, .int (nI e)), (2, .int (nI (nbin (S 0 0) (i + 1) 0 1))), (3, .int (nI i))] dX10_allSets_27 rfl (by decide) rfl ?_
        refine e_iinc (nI (i + 1)) [(0, .ref 0), (1, .int (nI e)), (2, .int (nI (nbin (S 0 0) (i + 1) 0 1))), (3, .int (nI (i + 1)))] dX10_allSets_28 3 rfl (nI_1 i) (by decide) rfl ?_
        refine e_goto (t := 4) dX10_allSets_31 (by decide) ?_
        exact ih (i + 1) (by omega)
  refine e_iconst (v := 1) dX10_allSets_0 rfl ?_
  refine e_istore_n [(0, .ref 0), (1, .int (nI e)), (2, .int 1)] dX10_allSets_1 rfl (by decide) rfl ?_
  refine e_iconst (v := 0) dX10_allSets_2 rfl ?_
  refine e_istore_n [(0, .ref 0), (1, .int (nI e)), (2, .int 1), (3, .int 0)] dX10_allSets_3 rfl (by decide) rfl ?_
  exact loop e 0 (by omega)

theorem c11_allN {S : ns_T} (hV : VS S) {σ : ex_S} {μ : ex_L}(hR : NR σ S) : Ci 2 yX11_all cX11_all 1 (some .int) [.ref 127] TT σ μ (fun z' σ' μ' => z' = nI (nall S) ∧ σ' = σ ∧ μ' = μ) := by
  have h := c11_all (σ := σ) (μ := μ)
  rwa [hR.1, i_all hV.1] at h

set_option maxRecDepth 100000 in
theorem c11_safeOf {p : Nat} (hp : gP p) {S : ns_T} (hV : VS S) {e : Nat} (he : e < 2 ^ 31) {σ : ex_S} {μ : ex_L}(hF : FR σ p) (hR : NR σ S) : Ci 8 yX11_safeOf cX11_safeOf 5 (some .int) [.ref 127, .int (nI e), .int 0] TT σ μ (fun z' σ' μ' => z' = nI (nsafe p S e) ∧ FrM σ σ' ∧ μ' = μ) := by
  refine Cl_of (by decide +kernel) (Nat.le_of_ble_eq_true rfl) ?_
  show Ev RX11 cX11_safeOf 5 8 0 0 "safeOf" (some .int) ev_ext _ _ 0 0 0 [(0, .ref 127), (1, .int (nI e)), (2, .int 0)] [] TT σ μ
  have hn := hV.1
  have h2n := two_n hV
  have hal : nall S < 2 ^ S 0 0 := by unfold nall; have := Nat.two_pow_pos (S 0 0); omega
  have loop : ∀ (m s : Nat) (σ1 : ex_S), s + m = 2 ^ S 0 0 → FrM σ σ1 → Ev RX11 cX11_safeOf 5 8 0 0 "safeOf" (some .int) ev_ext TT.length (fun v9 T9 σ9 μ9 => T9 = TT ∧ ∃ z9, v9 = some (.int z9) ∧ (fun z' σ' μ' => z' = nI (nsafe p S e) ∧ FrM σ σ' ∧ μ' = μ) z9 σ9 μ9) 0 0 5 [(0, .ref 127), (1, .int (nI e)), (2, .int 0), (3, .int (nI (ncnt (SafeP p S e) s))), (4, .int (nI s))] [] TT σ1 μ := by
    intro m
    induction m with
    | zero =>
      intro s σ1 hs f1
      obtain rfl : s = 2 ^ S 0 0 := by omega
      have hR1 := hR.to f1
      refine e_iload dX11_safeOf_5 4 rfl ?_
      refine e_iconst (v := 1) dX11_safeOf_7 rfl ?_
      refine e_aload_n dX11_safeOf_8 rfl 0 rfl ?_
      refine e_getI dX11_safeOf_9 lkX11_95 tt_127 rfl ?_
      rw [hR1.1]
      refine e_ishl dX11_safeOf_12 ?_
      rw [i_shl1 (by omega)]
      refine e_icmp_ge (t := 58) dX11_safeOf_13 (by decide) (fun h13 => ?_) (fun h13 => ?_)
      · skip
        refine e_iload_n dX11_safeOf_58 rfl 3 rfl ?_
        refine e_reti dX11_safeOf_59 ev_nwi (Nat.le_refl _) (Nat.le_refl _) ?_
        exact ⟨rfl, f1, rfl⟩
      · skip
        exact absurd (show nI (2 ^ S 0 0) ≤ nI (2 ^ S 0 0) from (i_le (by omega) (by omega)).mpr (by omega)) h13
    | succ m ih =>
      intro s σ1 hs f1
      have hR1 := hR.to f1
      have hF1 := hF.to f1
      have hps := npop_le s
      have hcl := ncnt_le (SafeP p S e) s
      refine e_iload dX11_safeOf_5 4 rfl ?_
      refine e_iconst (v := 1) dX11_safeOf_7 rfl ?_
      refine e_aload_n dX11_safeOf_8 rfl 0 rfl ?_
      refine e_getI dX11_safeOf_9 lkX11_95 tt_127 rfl ?_
      rw [hR1.1]
      refine e_ishl dX11_safeOf_12 ?_
      rw [i_shl1 (by omega)]
      refine e_icmp_ge (t := 58) dX11_safeOf_13 (by decide) (fun h13 => ?_) (fun h13 => ?_)
      · skip
        exact absurd ((i_le (by omega) (by omega)).mp (show nI (2 ^ S 0 0) ≤ nI s from h13)) (by omega)
      · skip
        refine e_iload dX11_safeOf_16 4 rfl ?_
        refine e_callSi dX11_safeOf_18 cvX11_224 rfl (cJ_pop (t := s) (by omega)) (Nat.le_of_ble_eq_true rfl) (Nat.le_refl _) (Nat.le_refl _) rfl (Nat.le_of_ble_eq_true rfl) (fun r18 s18 m18 q18 => ?_)
        obtain ⟨q18, e18, g18⟩ := q18
        rw [e18, g18]
        clear e18 g18 s18 m18
        refine e_iload_n dX11_safeOf_21 rfl 1 rfl ?_
        refine e_icmp_ne (t := 52) dX11_safeOf_22 (by decide) (fun h22 => ?_) (fun h22 => ?_)
        · skip
          skip
          refine e_iinc (nI (s + 1)) [(0, .ref 127), (1, .int (nI e)), (2, .int 0), (3, .int (nI (ncnt (SafeP p S e) s))), (4, .int (nI (s + 1)))] dX11_safeOf_52 4 rfl (nI_1 s) (by decide) rfl ?_
          refine e_goto (t := 5) dX11_safeOf_55 (by decide) ?_
          refine e_lv [(0, .ref 127), (1, .int (nI e)), (2, .int 0), (3, .int (nI (ncnt (SafeP p S e) s))), (4, .int (nI (s + 1)))] (List.forall_mem_cons.mpr ⟨List.mem_of_getElem? (i := 0) rfl, List.forall_mem_cons.mpr ⟨List.mem_of_getElem? (i := 1) rfl, List.forall_mem_cons.mpr ⟨List.mem_of_getElem? (i := 2) rfl, List.forall_mem_cons.mpr ⟨List.mem_of_getElem? (i := 3) rfl, List.forall_mem_cons.mpr ⟨List.mem_of_getElem? (i := 4) rfl, fun _ h => absurd h List.not_mem_nil⟩⟩⟩⟩⟩) ?_
          have h9 := ih (s + 1) σ1 (by omega) f1
          rw [ncnt_f (P := SafeP p S e) (fun q => h22 (by rw [q18, q.1]))] at h9
          exact h9
        · skip
          skip
          refine e_iload_n dX11_safeOf_25 rfl 2 rfl ?_
          refine e_if_ne (t := 49) dX11_safeOf_26 (by decide) (fun h26 => ?_) (fun h26 => ?_)
          · skip
            exact absurd rfl h26
          · skip
            refine e_aload_n dX11_safeOf_29 rfl 0 rfl ?_
            refine e_aload_n dX11_safeOf_30 rfl 0 rfl ?_
            refine e_callVi dX11_safeOf_31 cvX11_229 rfl tt_127 rfl (c11_allN hV hR1) (Nat.le_of_ble_eq_true rfl) (Nat.le_refl _) (Nat.le_refl _) rfl (Nat.le_of_ble_eq_true rfl) (fun r31 s31 m31 q31 => ?_)
            obtain ⟨q31, e31, g31⟩ := q31
            rw [e31, g31]
            clear e31 g31 s31 m31
            rw [q31]
            refine e_iload dX11_safeOf_34 4 rfl ?_
            refine e_iconst (v := (-1)) dX11_safeOf_36 rfl ?_
            refine e_ixor dX11_safeOf_37 ?_
            refine e_iand dX11_safeOf_38 ?_
            rw [show (nall S) = nall S from rfl, not_i _ _ (by omega)]
            refine e_aload_n dX11_safeOf_39 rfl 0 rfl ?_
            refine e_callVi dX11_safeOf_40 cvX11_232 rfl tt_127 rfl (c11_allData hV hR1) (Nat.le_of_ble_eq_true rfl) (Nat.le_refl _) (Nat.le_refl _) rfl (Nat.le_of_ble_eq_true rfl) (fun r40 s40 m40 q40 => ?_)
            obtain ⟨q40, e40, g40⟩ := q40
            rw [e40, g40]
            clear e40 g40 s40 m40
            rw [q40]
            refine e_callVi dX11_safeOf_43 cvX11_221 rfl tt_127 rfl (c11_tells hp hV (t := nleft S s) (u := S 0 2) (Nat.lt_of_lt_of_le (nleft_lt s) (by omega)) (by have := hV.2.2.2.2.1; omega) hF1 hR1) (Nat.le_of_ble_eq_true rfl) (Nat.le_refl _) (Nat.le_refl _) rfl (Nat.le_of_ble_eq_true rfl) (fun r43 s43 m43 q43 => ?_)
            obtain ⟨q43, a1, a2⟩ := q43
            rw [a2]
            refine e_if_eq (t := 52) dX11_safeOf_46 (by decide) (fun h46 => ?_) (fun h46 => ?_)
            · skip
              skip
              refine e_iinc (nI (s + 1)) [(0, .ref 127), (1, .int (nI e)), (2, .int 0), (3, .int (nI (ncnt (SafeP p S e) s))), (4, .int (nI (s + 1)))] dX11_safeOf_52 4 rfl (nI_1 s) (by decide) rfl ?_
              refine e_goto (t := 5) dX11_safeOf_55 (by decide) ?_
              have h9 := ih (s + 1) _ (by omega) (f1.tr a1)
              rw [ncnt_f (fun q => by rw [q43, bI_eq0] at h46; exact h46 q.2)] at h9
              exact h9
            · skip
              skip
              refine e_iinc (nI (ncnt (SafeP p S e) s + 1)) [(0, .ref 127), (1, .int (nI e)), (2, .int 0), (3, .int (nI (ncnt (SafeP p S e) s + 1))), (4, .int (nI s))] dX11_safeOf_49 3 rfl (nI_1 _) (by decide) rfl ?_
              refine e_iinc (nI (s + 1)) [(0, .ref 127), (1, .int (nI e)), (2, .int 0), (3, .int (nI (ncnt (SafeP p S e) s + 1))), (4, .int (nI (s + 1)))] dX11_safeOf_52 4 rfl (nI_1 s) (by decide) rfl ?_
              refine e_goto (t := 5) dX11_safeOf_55 (by decide) ?_
              have hy : SafeP p S e s := ⟨(i_eq (by omega) he).mp (show nI (npop s) = nI e from by rw [← q18]; exact h22), by rw [q43, bI_eq0] at h46; exact Classical.not_not.mp h46⟩
              have h9 := ih (s + 1) _ (by omega) (f1.tr a1)
              rw [ncnt_t hy] at h9
              exact h9
  refine e_iconst (v := 0) dX11_safeOf_0 rfl ?_
  refine e_istore_n [(0, .ref 127), (1, .int (nI e)), (2, .int 0), (3, .int 0)] dX11_safeOf_1 rfl (by decide) rfl ?_
  refine e_iconst (v := 0) dX11_safeOf_2 rfl ?_
  refine e_istore [(0, .ref 127), (1, .int (nI e)), (2, .int 0), (3, .int 0), (4, .int 0)] dX11_safeOf_3 (by decide) rfl ?_
  exact loop (2 ^ S 0 0) 0 σ (by omega) FrM.rf

set_option maxRecDepth 100000 in
theorem c11_anyOf {p : Nat} (hp : gP p) {S : ns_T} (hV : VS S) {e : Nat} (he : e < 2 ^ 31) {σ : ex_S} {μ : ex_L}(hF : FR σ p) (hR : NR σ S) : Ci 8 yX11_safeOf cX11_safeOf 5 (some .int) [.ref 127, .int (nI e), .int 1] TT σ μ (fun z' σ' μ' => z' = nI (nany S e) ∧ FrM σ σ' ∧ μ' = μ) := by
  refine Cl_of (by decide +kernel) (Nat.le_of_ble_eq_true rfl) ?_
  show Ev RX11 cX11_safeOf 5 8 0 0 "safeOf" (some .int) ev_ext _ _ 0 0 0 [(0, .ref 127), (1, .int (nI e)), (2, .int 1)] [] TT σ μ
  have hn := hV.1
  have h2n := two_n hV
  have hal : nall S < 2 ^ S 0 0 := by unfold nall; have := Nat.two_pow_pos (S 0 0); omega
  have loop : ∀ (m s : Nat) (σ1 : ex_S), s + m = 2 ^ S 0 0 → FrM σ σ1 → Ev RX11 cX11_safeOf 5 8 0 0 "safeOf" (some .int) ev_ext TT.length (fun v9 T9 σ9 μ9 => T9 = TT ∧ ∃ z9, v9 = some (.int z9) ∧ (fun z' σ' μ' => z' = nI (nany S e) ∧ FrM σ σ' ∧ μ' = μ) z9 σ9 μ9) 0 0 5 [(0, .ref 127), (1, .int (nI e)), (2, .int 1), (3, .int (nI (ncnt (fun t => npop t = e) s))), (4, .int (nI s))] [] TT σ1 μ := by
    intro m
    induction m with
    | zero =>
      intro s σ1 hs f1
      obtain rfl : s = 2 ^ S 0 0 := by omega
      have hR1 := hR.to f1
      refine e_iload dX11_safeOf_5 4 rfl ?_
      refine e_iconst (v := 1) dX11_safeOf_7 rfl ?_
      refine e_aload_n dX11_safeOf_8 rfl 0 rfl ?_
      refine e_getI dX11_safeOf_9 lkX11_95 tt_127 rfl ?_
      rw [hR1.1]
      refine e_ishl dX11_safeOf_12 ?_
      rw [i_shl1 (by omega)]
      refine e_icmp_ge (t := 58) dX11_safeOf_13 (by decide) (fun h13 => ?_) (fun h13 => ?_)
      · skip
        refine e_iload_n dX11_safeOf_58 rfl 3 rfl ?_
        refine e_reti dX11_safeOf_59 ev_nwi (Nat.le_refl _) (Nat.le_refl _) ?_
        exact ⟨rfl, f1, rfl⟩
      · skip
        exact absurd (show nI (2 ^ S 0 0) ≤ nI (2 ^ S 0 0) from (i_le (by omega) (by omega)).mpr (by omega)) h13
    | succ m ih =>
      intro s σ1 hs f1
      have hR1 := hR.to f1
      have hF1 := hF.to f1
      have hps := npop_le s
      have hcl := ncnt_le (fun t => npop t = e) s
      refine e_iload dX11_safeOf_5 4 rfl ?_
      refine e_iconst (v := 1) dX11_safeOf_7 rfl ?_
      refine e_aload_n dX11_safeOf_8 rfl 0 rfl ?_
      refine e_getI dX11_safeOf_9 lkX11_95 tt_127 rfl ?_
      rw [hR1.1]
      refine e_ishl dX11_safeOf_12 ?_
      rw [i_shl1 (by omega)]
      refine e_icmp_ge (t := 58) dX11_safeOf_13 (by decide) (fun h13 => ?_) (fun h13 => ?_)
      · skip
        exact absurd ((i_le (by omega) (by omega)).mp (show nI (2 ^ S 0 0) ≤ nI s from h13)) (by omega)
      · skip
        refine e_iload dX11_safeOf_16 4 rfl ?_
        refine e_callSi dX11_safeOf_18 cvX11_224 rfl (cJ_pop (t := s) (by omega)) (Nat.le_of_ble_eq_true rfl) (Nat.le_refl _) (Nat.le_refl _) rfl (Nat.le_of_ble_eq_true rfl) (fun r18 s18 m18 q18 => ?_)
        obtain ⟨q18, e18, g18⟩ := q18
        rw [e18, g18]
        clear e18 g18 s18 m18
        refine e_iload_n dX11_safeOf_21 rfl 1 rfl ?_
        refine e_icmp_ne (t := 52) dX11_safeOf_22 (by decide) (fun h22 => ?_) (fun h22 => ?_)
        · skip
          skip
          refine e_iinc (nI (s + 1)) [(0, .ref 127), (1, .int (nI e)), (2, .int 1), (3, .int (nI (ncnt (fun t => npop t = e) s))), (4, .int (nI (s + 1)))] dX11_safeOf_52 4 rfl (nI_1 s) (by decide) rfl ?_
          refine e_goto (t := 5) dX11_safeOf_55 (by decide) ?_
          refine e_lv [(0, .ref 127), (1, .int (nI e)), (2, .int 1), (3, .int (nI (ncnt (fun t => npop t = e) s))), (4, .int (nI (s + 1)))] (List.forall_mem_cons.mpr ⟨List.mem_of_getElem? (i := 0) rfl, List.forall_mem_cons.mpr ⟨List.mem_of_getElem? (i := 1) rfl, List.forall_mem_cons.mpr ⟨List.mem_of_getElem? (i := 2) rfl, List.forall_mem_cons.mpr ⟨List.mem_of_getElem? (i := 3) rfl, List.forall_mem_cons.mpr ⟨List.mem_of_getElem? (i := 4) rfl, fun _ h => absurd h List.not_mem_nil⟩⟩⟩⟩⟩) ?_
          have h9 := ih (s + 1) σ1 (by omega) f1
          rw [ncnt_f (P := fun t => npop t = e) (fun q => h22 (by rw [q18, show npop s = e from q]))] at h9
          exact h9
        · skip
          skip
          refine e_iload_n dX11_safeOf_25 rfl 2 rfl ?_
          refine e_if_ne (t := 49) dX11_safeOf_26 (by decide) (fun h26 => ?_) (fun h26 => ?_)
          · skip
            refine e_iinc (nI (ncnt (fun t => npop t = e) s + 1)) [(0, .ref 127), (1, .int (nI e)), (2, .int 1), (3, .int (nI (ncnt (fun t => npop t = e) s + 1))), (4, .int (nI s))] dX11_safeOf_49 3 rfl (nI_1 _) (by decide) rfl ?_
            refine e_iinc (nI (s + 1)) [(0, .ref 127), (1, .int (nI e)), (2, .int 1), (3, .int (nI (ncnt (fun t => npop t = e) s + 1))), (4, .int (nI (s + 1)))] dX11_safeOf_52 4 rfl (nI_1 s) (by decide) rfl ?_
            refine e_goto (t := 5) dX11_safeOf_55 (by decide) ?_
            have hy : npop s = e := (i_eq (by omega) he).mp (show nI (npop s) = nI e from by rw [← q18]; exact h22)
            have h9 := ih (s + 1) σ1 (by omega) f1
            rw [ncnt_t (P := fun t => npop t = e) hy] at h9
            exact h9
          · skip
            exact absurd h26 (by decide)
  refine e_iconst (v := 0) dX11_safeOf_0 rfl ?_
  refine e_istore_n [(0, .ref 127), (1, .int (nI e)), (2, .int 1), (3, .int 0)] dX11_safeOf_1 rfl (by decide) rfl ?_
  refine e_iconst (v := 0) dX11_safeOf_2 rfl ?_
  refine e_istore [(0, .ref 127), (1, .int (nI e)), (2, .int 1), (3, .int 0), (4, .int 0)] dX11_safeOf_3 (by decide) rfl ?_
  exact loop (2 ^ S 0 0) 0 σ (by omega) FrM.rf
