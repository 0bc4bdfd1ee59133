theorem cJ_pop {t : Nat} (ht : t < 1024) {σ : ex_S} {μ : ex_L} : Ci 2 yJ6_bitCount_0f7a4 cJ6_bitCount_0f7a4 1 (some .int) [.int (nI t)] TT σ μ (fun z' σ' μ' => z' = nI (npop t) ∧ σ' = σ ∧ μ' = μ) := by
  have h := cJ_bitCount (nI t) (σ := σ) (μ := μ)
  rwa [bcI_ok t ht] at h

set_option maxRecDepth 100000 in
theorem c10_fewest {p : Nat} (hp : gP p) {S : ns_T} (hV : VS S) {j : Nat} (hj : j < S 0 0) {σ : ex_S} {μ : ex_L}(hC : NC σ 33 S) (hK : RKI σ p S) : Ci 5 yX10_fewestTellers cX10_fewestTellers 7 (some .int) [.ref 0, .int (nI j)] TT σ μ (fun z' σ' μ' => z' = hI (nloc p S j) ∧ σ' = σ ∧ μ' = μ) := by
  refine Cl_of (by decide +kernel) (Nat.le_of_ble_eq_true rfl) ?_
  show Ev RX10 cX10_fewestTellers 7 5 0 0 "fewestTellers" (some .int) ev_ext _ _ 0 0 0 [(0, .ref 0), (1, .int (nI j))] [] TT σ μ
  have hn := hV.1
  have h2n := two_n hV
  have hal : nall S < 2 ^ S 0 0 := by unfold nall; have := Nat.two_pow_pos (S 0 0); omega
  have hol := naoth_le S j
  have loop : ∀ (m s : Nat) (best : Option Nat), s + m = naoth S j + 1 → Bst (LocP p S j) npop s best → Ev RX10 cX10_fewestTellers 7 5 0 0 "fewestTellers" (some .int) ev_ext TT.length (fun v9 T9 σ9 μ9 => T9 = TT ∧ ∃ z9, v9 = some (.int z9) ∧ (fun z' σ' μ' => z' = hI (nloc p S j) ∧ σ' = σ ∧ μ' = μ) z9 σ9 μ9) 0 0 23 [(0, .ref 0), (1, .int (nI j)), (2, .int (nI (naoth S j))), (3, .int (hI best)), (4, .int (nI s))] [] TT σ μ := by
    intro m
    induction m with
    | zero =>
      intro s best hs hB
      obtain rfl : s = naoth S j + 1 := by omega
      have hB2 := Bst_up hB (2 ^ S 0 0 - (naoth S j + 1)) (fun t h1 h2 hp => by
        have h3 := sub_le ((naoth_iff (S := S) (j := j) (t := t) (by omega)).mpr hp.1)
        omega)
      rw [show naoth S j + 1 + (2 ^ S 0 0 - (naoth S j + 1)) = 2 ^ S 0 0 by omega] at hB2
      refine e_iload dX10_fewestTellers_23 4 rfl ?_
      refine e_iload_n dX10_fewestTellers_25 rfl 2 rfl ?_
      refine e_icmp_gt (t := 91) dX10_fewestTellers_26 (by decide) (fun h26 => ?_) (fun h26 => ?_)
      · skip
        refine e_iload_n dX10_fewestTellers_91 rfl 3 rfl ?_
        refine e_reti dX10_fewestTellers_92 ev_nwi (Nat.le_refl _) (Nat.le_refl _) ?_
        exact ⟨by rw [nloc_eq hB2], rfl, rfl⟩
      · skip
        exact absurd (show nI (naoth S j) < nI (naoth S j + 1) from (i_lt (by omega) (by omega)).mpr (by omega)) h26
    | succ m ih =>
      intro s best hs hB
      have hps := npop_le s
      have hbr : ∀ r, best = some r → r ≤ 10 := fun r hr => by
        obtain ⟨⟨t, -, -, g3⟩, -⟩ := hB.1 r hr
        have := npop_le t
        omega
      refine e_iload dX10_fewestTellers_23 4 rfl ?_
      refine e_iload_n dX10_fewestTellers_25 rfl 2 rfl ?_
      refine e_icmp_gt (t := 91) dX10_fewestTellers_26 (by decide) (fun h26 => ?_) (fun h26 => ?_)
      · skip
        exact absurd ((i_lt (by omega) (by omega)).mp (show nI (naoth S j) < nI s from h26)) (by omega)
      · skip
        refine e_iload dX10_fewestTellers_29 4 rfl ?_
        refine e_callSi dX10_fewestTellers_31 cvX10_214 rfl (cJ_pop (t := s) (by omega)) (Nat.le_of_ble_eq_true rfl) (Nat.le_refl _) (Nat.le_refl _) rfl (Nat.le_of_ble_eq_true rfl) (fun r31 s31 m31 q31 => ?_)
        obtain ⟨q31, e31, g31⟩ := q31
        rw [e31, g31]
        clear e31 g31 s31 m31
        rw [q31]
        refine e_istore [(0, .ref 0), (1, .int (nI j)), (2, .int (nI (naoth S j))), (3, .int (hI best)), (4, .int (nI s)), (5, .int (nI (npop s)))] dX10_fewestTellers_34 (by decide) rfl ?_
        refine e_iload_n dX10_fewestTellers_36 rfl 3 rfl ?_
        refine e_bipush (v := (-5)) dX10_fewestTellers_37 rfl ?_
        refine e_icmp_eq (t := 48) dX10_fewestTellers_39 (by decide) (fun h39 => ?_) (fun h39 => ?_)
        · skip
          skip
          refine e_iconst (v := 1) dX10_fewestTellers_48 rfl ?_
          refine e_goto (t := 53) dX10_fewestTellers_49 (by decide) ?_
          refine e_istore [(0, .ref 0), (1, .int (nI j)), (2, .int (nI (naoth S j))), (3, .int (hI best)), (4, .int (nI s)), (5, .int (nI (npop s))), (6, .int 1)] dX10_fewestTellers_53 (by decide) rfl ?_
          refine e_iload dX10_fewestTellers_55 4 rfl ?_
          refine e_iload_n dX10_fewestTellers_57 rfl 2 rfl ?_
          refine e_iconst (v := (-1)) dX10_fewestTellers_58 rfl ?_
          refine e_ixor dX10_fewestTellers_59 ?_
          refine e_iand dX10_fewestTellers_60 ?_
          rw [not_i _ _ (by omega)]
          refine e_if_ne (t := 85) dX10_fewestTellers_61 (by decide) (fun h61 => ?_) (fun h61 => ?_)
          · skip
            have hsub : ¬ s &&& naoth S j = s := fun q => h61 (by rw [(sub_iff s _).mpr q]; rfl)
            refine e_iinc (nI (s + 1)) [(0, .ref 0), (1, .int (nI j)), (2, .int (nI (naoth S j))), (3, .int (hI best)), (4, .int (nI (s + 1))), (5, .int (nI (npop s))), (6, .int 1)] dX10_fewestTellers_85 4 rfl (nI_1 s) (by decide) rfl ?_
            refine e_goto (t := 23) dX10_fewestTellers_88 (by decide) ?_
            refine e_lv [(0, .ref 0), (1, .int (nI j)), (2, .int (nI (naoth S j))), (3, .int (hI best)), (4, .int (nI (s + 1)))] (List.forall_mem_cons.mpr ⟨List.mem_of_getElem? (i := 0) rfl, List.forall_mem_cons.mpr ⟨List.mem_of_getElem? (i := 1) rfl, List.forall_mem_cons.mpr ⟨List.mem_of_getElem? (i := 2) rfl, List.forall_mem_cons.mpr ⟨List.mem_of_getElem? (i := 3) rfl, List.forall_mem_cons.mpr ⟨List.mem_of_getElem? (i := 4) rfl, fun _ h => absurd h List.not_mem_nil⟩⟩⟩⟩⟩) ?_
            exact ih (s + 1) best (by omega) (Bst_keep hB (fun q => hsub ((naoth_iff (by omega)).mpr q.1)))
          · skip
            have hsub : s &&& naoth S j = s := (sub_iff s _).mp ((i_eq (Nat.lt_of_le_of_lt Nat.and_le_left (by omega)) (by decide)).mp (show nI _ = nI 0 from h61))
            refine e_iload dX10_fewestTellers_64 6 rfl ?_
            refine e_if_eq (t := 85) dX10_fewestTellers_66 (by decide) (fun h66 => ?_) (fun h66 => ?_)
            · skip
              exact absurd h66 (by decide)
            · skip
              refine e_aload_n dX10_fewestTellers_69 rfl 0 rfl ?_
              refine e_getR dX10_fewestTellers_70 lkX10_30 tt_0 rfl ?_
              refine e_iload dX10_fewestTellers_73 4 rfl ?_
              refine e_iload_n dX10_fewestTellers_75 rfl 1 rfl ?_
              refine e_callVi dX10_fewestTellers_76 cvX10_219 rfl tt_5 rfl (c6_tellsN hp hV (t := s) (j := j) (by omega) hj hK) (Nat.le_of_ble_eq_true rfl) (Nat.le_refl _) (Nat.le_refl _) rfl (Nat.le_of_ble_eq_true rfl) (fun r76 s76 m76 q76 => ?_)
              obtain ⟨q76, e76, g76⟩ := q76
              rw [e76, g76]
              clear e76 g76 s76 m76
              refine e_if_eq (t := 85) dX10_fewestTellers_79 (by decide) (fun h79 => ?_) (fun h79 => ?_)
              · skip
                skip
                refine e_iinc (nI (s + 1)) [(0, .ref 0), (1, .int (nI j)), (2, .int (nI (naoth S j))), (3, .int (hI best)), (4, .int (nI (s + 1))), (5, .int (nI (npop s))), (6, .int 1)] dX10_fewestTellers_85 4 rfl (nI_1 s) (by decide) rfl ?_
                refine e_goto (t := 23) dX10_fewestTellers_88 (by decide) ?_
                refine e_lv [(0, .ref 0), (1, .int (nI j)), (2, .int (nI (naoth S j))), (3, .int (hI best)), (4, .int (nI (s + 1)))] (List.forall_mem_cons.mpr ⟨List.mem_of_getElem? (i := 0) rfl, List.forall_mem_cons.mpr ⟨List.mem_of_getElem? (i := 1) rfl, List.forall_mem_cons.mpr ⟨List.mem_of_getElem? (i := 2) rfl, List.forall_mem_cons.mpr ⟨List.mem_of_getElem? (i := 3) rfl, List.forall_mem_cons.mpr ⟨List.mem_of_getElem? (i := 4) rfl, fun _ h => absurd h List.not_mem_nil⟩⟩⟩⟩⟩) ?_
                exact ih (s + 1) best (by omega) (Bst_keep hB (fun q => by rw [q76, bI_eq0] at h79; exact h79 q.2))
              · skip
                refine e_iload dX10_fewestTellers_82 5 rfl ?_
                refine e_istore_n [(0, .ref 0), (1, .int (nI j)), (2, .int (nI (naoth S j))), (3, .int (nI (npop s))), (4, .int (nI s)), (5, .int (nI (npop s))), (6, .int 1)] dX10_fewestTellers_84 rfl (by decide) rfl ?_
                refine e_iinc (nI (s + 1)) [(0, .ref 0), (1, .int (nI j)), (2, .int (nI (naoth S j))), (3, .int (nI (npop s))), (4, .int (nI (s + 1))), (5, .int (nI (npop s))), (6, .int 1)] dX10_fewestTellers_85 4 rfl (nI_1 s) (by decide) rfl ?_
                refine e_goto (t := 23) dX10_fewestTellers_88 (by decide) ?_
                refine e_lv [(0, .ref 0), (1, .int (nI j)), (2, .int (nI (naoth S j))), (3, .int (nI (npop s))), (4, .int (nI (s + 1)))] (List.forall_mem_cons.mpr ⟨List.mem_of_getElem? (i := 0) rfl, List.forall_mem_cons.mpr ⟨List.mem_of_getElem? (i := 1) rfl, List.forall_mem_cons.mpr ⟨List.mem_of_getElem? (i := 2) rfl, List.forall_mem_cons.mpr ⟨List.mem_of_getElem? (i := 3) rfl, List.forall_mem_cons.mpr ⟨List.mem_of_getElem? (i := 4) rfl, fun _ h => absurd h List.not_mem_nil⟩⟩⟩⟩⟩) ?_
                have hyes : LocP p S j s := ⟨(naoth_iff (by omega)).mp hsub, by rw [q76, bI_eq0] at h79; exact Classical.not_not.mp h79⟩
                refine ih (s + 1) (some (npop s)) (by omega) (Bst_new hB hyes (fun r hr => ?_))
                rw [hr] at h39
                exact absurd h39 (hI_some (by have := hbr r hr; omega))
        · skip
          skip
          refine e_iload dX10_fewestTellers_42 5 rfl ?_
          refine e_iload_n dX10_fewestTellers_44 rfl 3 rfl ?_
          refine e_icmp_ge (t := 52) dX10_fewestTellers_45 (by decide) (fun h45 => ?_) (fun h45 => ?_)
          · skip
            refine e_iconst (v := 0) dX10_fewestTellers_52 rfl ?_
            refine e_istore [(0, .ref 0), (1, .int (nI j)), (2, .int (nI (naoth S j))), (3, .int (hI best)), (4, .int (nI s)), (5, .int (nI (npop s))), (6, .int 0)] dX10_fewestTellers_53 (by decide) rfl ?_
            refine e_iload dX10_fewestTellers_55 4 rfl ?_
            refine e_iload_n dX10_fewestTellers_57 rfl 2 rfl ?_
            refine e_iconst (v := (-1)) dX10_fewestTellers_58 rfl ?_
            refine e_ixor dX10_fewestTellers_59 ?_
            refine e_iand dX10_fewestTellers_60 ?_
            rw [not_i _ _ (by omega)]
            refine e_if_ne (t := 85) dX10_fewestTellers_61 (by decide) (fun h61 => ?_) (fun h61 => ?_)
            · skip
              have hsub : ¬ s &&& naoth S j = s := fun q => h61 (by rw [(sub_iff s _).mpr q]; rfl)
              refine e_iinc (nI (s + 1)) [(0, .ref 0), (1, .int (nI j)), (2, .int (nI (naoth S j))), (3, .int (hI best)), (4, .int (nI (s + 1))), (5, .int (nI (npop s))), (6, .int 0)] dX10_fewestTellers_85 4 rfl (nI_1 s) (by decide) rfl ?_
              refine e_goto (t := 23) dX10_fewestTellers_88 (by decide) ?_
              refine e_lv [(0, .ref 0), (1, .int (nI j)), (2, .int (nI (naoth S j))), (3, .int (hI best)), (4, .int (nI (s + 1)))] (List.forall_mem_cons.mpr ⟨List.mem_of_getElem? (i := 0) rfl, List.forall_mem_cons.mpr ⟨List.mem_of_getElem? (i := 1) rfl, List.forall_mem_cons.mpr ⟨List.mem_of_getElem? (i := 2) rfl, List.forall_mem_cons.mpr ⟨List.mem_of_getElem? (i := 3) rfl, List.forall_mem_cons.mpr ⟨List.mem_of_getElem? (i := 4) rfl, fun _ h => absurd h List.not_mem_nil⟩⟩⟩⟩⟩) ?_
              exact ih (s + 1) best (by omega) (Bst_keep hB (fun q => hsub ((naoth_iff (by omega)).mpr q.1)))
            · skip
              have hsub : s &&& naoth S j = s := (sub_iff s _).mp ((i_eq (Nat.lt_of_le_of_lt Nat.and_le_left (by omega)) (by decide)).mp (show nI _ = nI 0 from h61))
              refine e_iload dX10_fewestTellers_64 6 rfl ?_
              refine e_if_eq (t := 85) dX10_fewestTellers_66 (by decide) (fun h66 => ?_) (fun h66 => ?_)
              · skip
                skip
                refine e_iinc (nI (s + 1)) [(0, .ref 0), (1, .int (nI j)), (2, .int (nI (naoth S j))), (3, .int (hI best)), (4, .int (nI (s + 1))), (5, .int (nI (npop s))), (6, .int 0)] dX10_fewestTellers_85 4 rfl (nI_1 s) (by decide) rfl ?_
                refine e_goto (t := 23) dX10_fewestTellers_88 (by decide) ?_
                refine e_lv [(0, .ref 0), (1, .int (nI j)), (2, .int (nI (naoth S j))), (3, .int (hI best)), (4, .int (nI (s + 1)))] (List.forall_mem_cons.mpr ⟨List.mem_of_getElem? (i := 0) rfl, List.forall_mem_cons.mpr ⟨List.mem_of_getElem? (i := 1) rfl, List.forall_mem_cons.mpr ⟨List.mem_of_getElem? (i := 2) rfl, List.forall_mem_cons.mpr ⟨List.mem_of_getElem? (i := 3) rfl, List.forall_mem_cons.mpr ⟨List.mem_of_getElem? (i := 4) rfl, fun _ h => absurd h List.not_mem_nil⟩⟩⟩⟩⟩) ?_
                have hb : ∃ r, best = some r := by
                  cases best with
                  | none => exact absurd rfl h39
                  | some r => exact ⟨r, rfl⟩
                obtain ⟨r, rfl⟩ := hb
                have := hbr r rfl
                exact ih (s + 1) (some r) (by omega) (Bst_more hB ((i_le (by omega) (by omega)).mp (show nI r ≤ nI (npop s) from h45)))
              · skip
                exact absurd rfl h66
          · skip
            refine e_iconst (v := 1) dX10_fewestTellers_48 rfl ?_
            refine e_goto (t := 53) dX10_fewestTellers_49 (by decide) ?_
            refine e_istore [(0, .ref 0), (1, .int (nI j)), (2, .int (nI (naoth S j))), (3, .int (hI best)), (4, .int (nI s)), (5, .int (nI (npop s))), (6, .int 1)] dX10_fewestTellers_53 (by decide) rfl ?_
            refine e_iload dX10_fewestTellers_55 4 rfl ?_
            refine e_iload_n dX10_fewestTellers_57 rfl 2 rfl ?_
            refine e_iconst (v := (-1)) dX10_fewestTellers_58 rfl ?_
            refine e_ixor dX10_fewestTellers_59 ?_
            refine e_iand dX10_fewestTellers_60 ?_
            rw [not_i _ _ (by omega)]
            refine e_if_ne (t := 85) dX10_fewestTellers_61 (by decide) (fun h61 => ?_) (fun h61 => ?_)
            · skip
              have hsub : ¬ s &&& naoth S j = s := fun q => h61 (by rw [(sub_iff s _).mpr q]; rfl)
              refine e_iinc (nI (s + 1)) [(0, .ref 0), (1, .int (nI j)), (2, .int (nI (naoth S j))), (3, .int (hI best)), (4, .int (nI (s + 1))), (5, .int (nI (npop s))), (6, .int 1)] dX10_fewestTellers_85 4 rfl (nI_1 s) (by decide) rfl ?_
              refine e_goto (t := 23) dX10_fewestTellers_88 (by decide) ?_
              refine e_lv [(0, .ref 0), (1, .int (nI j)), (2, .int (nI (naoth S j))), (3, .int (hI best)), (4, .int (nI (s + 1)))] (List.forall_mem_cons.mpr ⟨List.mem_of_getElem? (i := 0) rfl, List.forall_mem_cons.mpr ⟨List.mem_of_getElem? (i := 1) rfl, List.forall_mem_cons.mpr ⟨List.mem_of_getElem? (i := 2) rfl, List.forall_mem_cons.mpr ⟨List.mem_of_getElem? (i := 3) rfl, List.forall_mem_cons.mpr ⟨List.mem_of_getElem? (i := 4) rfl, fun _ h => absurd h List.not_mem_nil⟩⟩⟩⟩⟩) ?_
              exact ih (s + 1) best (by omega) (Bst_keep hB (fun q => hsub ((naoth_iff (by omega)).mpr q.1)))
            · skip
              have hsub : s &&& naoth S j = s := (sub_iff s _).mp ((i_eq (Nat.lt_of_le_of_lt Nat.and_le_left (by omega)) (by decide)).mp (show nI _ = nI 0 from h61))
              refine e_iload dX10_fewestTellers_64 6 rfl ?_
              refine e_if_eq (t := 85) dX10_fewestTellers_66 (by decide) (fun h66 => ?_) (fun h66 => ?_)
              · skip
                exact absurd h66 (by decide)
              · skip
                refine e_aload_n dX10_fewestTellers_69 rfl 0 rfl ?_
                refine e_getR dX10_fewestTellers_70 lkX10_30 tt_0 rfl ?_
                refine e_iload dX10_fewestTellers_73 4 rfl ?_
                refine e_iload_n dX10_fewestTellers_75 rfl 1 rfl ?_
                refine e_callVi dX10_fewestTellers_76 cvX10_219 rfl tt_5 rfl (c6_tellsN hp hV (t := s) (j := j) (by omega) hj hK) (Nat.le_of_ble_eq_true rfl) (Nat.le_refl _) (Nat.le_refl _) rfl (Nat.le_of_ble_eq_true rfl) (fun r76 s76 m76 q76 => ?_)
                obtain ⟨q76, e76, g76⟩ := q76
                rw [e76, g76]
                clear e76 g76 s76 m76
                refine e_if_eq (t := 85) dX10_fewestTellers_79 (by decide) (fun h79 => ?_) (fun h79 => ?_)
                · skip
                  skip
                  refine e_iinc (nI (s + 1)) [(0, .ref 0), (1, .int (nI j)), (2, .int (nI (naoth S j))), (3, .int (hI best)), (4, .int (nI (s + 1))), (5, .int (nI (npop s))), (6, .int 1)] dX10_fewestTellers_85 4 rfl (nI_1 s) (by decide) rfl ?_
                  refine e_goto (t := 23) dX10_fewestTellers_88 (by decide) ?_
                  refine e_lv [(0, .ref 0), (1, .int (nI j)), (2, .int (nI (naoth S j))), (3, .int (hI best)), (4, .int (nI (s + 1)))] (List.forall_mem_cons.mpr ⟨List.mem_of_getElem? (i := 0) rfl, List.forall_mem_cons.mpr ⟨List.mem_of_getElem? (i := 1) rfl, List.forall_mem_cons.mpr ⟨List.mem_of_getElem? (i := 2) rfl, List.forall_mem_cons.mpr ⟨List.mem_of_getElem? (i := 3) rfl, List.forall_mem_cons.mpr ⟨List.mem_of_getElem? (i := 4) rfl, fun _ h => absurd h List.not_mem_nil⟩⟩⟩⟩⟩) ?_
                  exact ih (s + 1) best (by omega) (Bst_keep hB (fun q => by rw [q76, bI_eq0] at h79; exact h79 q.2))
                · skip
                  refine e_iload dX10_fewestTellers_82 5 rfl ?_
                  refine e_istore_n [(0, .ref 0), (1, .int (nI j)), (2, .int (nI (naoth S j))), (3, .int (nI (npop s))), (4, .int (nI s)), (5, .int (nI (npop s))), (6, .int 1)] dX10_fewestTellers_84 rfl (by decide) rfl ?_
                  refine e_iinc (nI (s + 1)) [(0, .ref 0), (1, .int (nI j)), (2, .int (nI (naoth S j))), (3, .int (nI (npop s))), (4, .int (nI (s + 1))), (5, .int (nI (npop s))), (6, .int 1)] dX10_fewestTellers_85 4 rfl (nI_1 s) (by decide) rfl ?_
                  refine e_goto (t := 23) dX10_fewestTellers_88 (by decide) ?_
                  refine e_lv [(0, .ref 0), (1, .int (nI j)), (2, .int (nI (naoth S j))), (3, .int (nI (npop s))), (4, .int (nI (s + 1)))] (List.forall_mem_cons.mpr ⟨List.mem_of_getElem? (i := 0) rfl, List.forall_mem_cons.mpr ⟨List.mem_of_getElem? (i := 1) rfl, List.forall_mem_cons.mpr ⟨List.mem_of_getElem? (i := 2) rfl, List.forall_mem_cons.mpr ⟨List.mem_of_getElem? (i := 3) rfl, List.forall_mem_cons.mpr ⟨List.mem_of_getElem? (i := 4) rfl, fun _ h => absurd h List.not_mem_nil⟩⟩⟩⟩⟩) ?_
                  have hyes : LocP p S j s := ⟨(naoth_iff (by omega)).mp hsub, by rw [q76, bI_eq0] at h79; exact Classical.not_not.mp h79⟩
                  refine ih (s + 1) (some (npop s)) (by omega) (Bst_new hB hyes (fun r hr => ?_))
                  rw [hr] at h45
                  have := hbr r hr
                  exact (i_lt (by omega) (by omega)).mp (i32_nle h45)
  refine e_aload_n dX10_fewestTellers_0 rfl 0 rfl ?_
  refine e_getR dX10_fewestTellers_1 lkX10_46 tt_0 rfl ?_
  refine e_getR dX10_fewestTellers_4 lkX10_89 (store_0 store_32_) rfl ?_
  refine e_callVi dX10_fewestTellers_7 cvX10_210 rfl (nodes_0 (store_n store_32_)) rfl (c3_everyoneN nodes_33_ hV hC) (Nat.le_of_ble_eq_true rfl) (Nat.le_refl _) (Nat.le_refl _) rfl (Nat.le_of_ble_eq_true rfl) (fun r7 s7 m7 q7 => ?_)
  obtain ⟨q7, e7, g7⟩ := q7
  rw [e7, g7]
  clear e7 g7 s7 m7
  refine e_iconst (v := 1) dX10_fewestTellers_10 rfl ?_
  refine e_iload_n dX10_fewestTellers_11 rfl 1 rfl ?_
  refine e_ishl dX10_fewestTellers_12 ?_
  refine e_iconst (v := (-1)) dX10_fewestTellers_13 rfl ?_
  refine e_ixor dX10_fewestTellers_14 ?_
  refine e_iand dX10_fewestTellers_15 ?_
  rw [q7, i_shl1 (by omega), not_i _ _ (by omega)]
  refine e_istore_n [(0, .ref 0), (1, .int (nI j)), (2, .int (nI (naoth S j)))] dX10_fewestTellers_16 rfl (by decide) rfl ?_
  refine e_bipush (v := (-5)) dX10_fewestTellers_17 rfl ?_
  refine e_istore_n [(0, .ref 0), (1, .int (nI j)), (2, .int (nI (naoth S j))), (3, .int (hI none))] dX10_fewestTellers_19 rfl (by decide) rfl ?_
  refine e_iconst (v := 0) dX10_fewestTellers_20 rfl ?_
  refine e_istore [(0, .ref 0), (1, .int (nI j)), (2, .int (nI (naoth S j))), (3, .int (hI none)), (4, .int 0)] dX10_fewestTellers_21 (by decide) rfl ?_
  exact loop (naoth S j + 1) 0 none (by omega) Bst_0

set_option maxRecDepth 100000 in
theorem c11_local {p : Nat} (hp : gP p) {S : ns_T} (hV : VS S) {j : Nat} (hj : j < S 0 0) {σ : ex_S} {μ : ex_L}(hF : FR σ p) (hR : NR σ S) : Ci 8 yX11_local cX11_local 5 (some .int) [.ref 127, .int (nI j)] TT σ μ (fun z' σ' μ' => z' = hI (nloc p S j) ∧ FrM σ σ' ∧ μ' = μ) := by
  refine Cl_of (by decide +kernel) (Nat.le_of_ble_eq_true rfl) ?_
  show Ev RX11 cX11_local 5 8 0 0 "local" (some .int) ev_ext _ _ 0 0 0 [(0, .ref 127), (1, .int (nI j))] [] TT σ μ
  have hn := hV.1
  have h2n := two_n hV
  have loop : ∀ (m s : Nat) (best : Option Nat) (σ1 : ex_S), s + m = 2 ^ S 0 0 → FrM σ σ1 → Bst (LocP p S j) npop s best → Ev RX11 cX11_local 5 8 0 0 "local" (some .int) ev_ext TT.length (fun v9 T9 σ9 μ9 => T9 = TT ∧ ∃ z9, v9 = some (.int z9) ∧ (fun z' σ' μ' => z' = hI (nloc p S j) ∧ FrM σ σ' ∧ μ' = μ) z9 σ9 μ9) 0 0 5 [(0, .ref 127), (1, .int (nI j)), (2, .int (hI best)), (3, .int (nI s))] [] TT σ1 μ := by
    intro m
    induction m with
    | zero =>
      intro s best σ1 hs f1 hB
      obtain rfl : s = 2 ^ S 0 0 := by omega
      have hR1 := hR.to f1
      refine e_iload_n dX11_local_5 rfl 3 rfl ?_
      refine e_iconst (v := 1) dX11_local_6 rfl ?_
      refine e_aload_n dX11_local_7 rfl 0 rfl ?_
      refine e_getI dX11_local_8 lkX11_95 tt_127 rfl ?_
      rw [hR1.1]
      refine e_ishl dX11_local_11 ?_
      rw [i_shl1 (by omega)]
      refine e_icmp_ge (t := 64) dX11_local_12 (by decide) (fun h12 => ?_) (fun h12 => ?_)
      · skip
        refine e_iload_n dX11_local_64 rfl 2 rfl ?_
        refine e_reti dX11_local_65 ev_nwi (Nat.le_refl _) (Nat.le_refl _) ?_
        exact ⟨by rw [nloc_eq hB], f1, rfl⟩
      · skip
        exact absurd (show nI (2 ^ S 0 0) ≤ nI (2 ^ S 0 0) from (i_le (by omega) (by omega)).mpr (by omega)) h12
    | succ m ih =>
      intro s best σ1 hs f1 hB
      have hR1 := hR.to f1
      have hF1 := hF.to f1
      have hps := npop_le s
      have hbr : ∀ r, best = some r → r ≤ 10 := fun r hr => by
        obtain ⟨⟨t, -, -, g3⟩, -⟩ := hB.1 r hr
        have := npop_le t
        omega
      refine e_iload_n dX11_local_5 rfl 3 rfl ?_
      refine e_iconst (v := 1) dX11_local_6 rfl ?_
      refine e_aload_n dX11_local_7 rfl 0 rfl ?_
      refine e_getI dX11_local_8 lkX11_95 tt_127 rfl ?_
      rw [hR1.1]
      refine e_ishl dX11_local_11 ?_
      rw [i_shl1 (by omega)]
      refine e_icmp_ge (t := 64) dX11_local_12 (by decide) (fun h12 => ?_) (fun h12 => ?_)
      · skip
        exact absurd ((i_le (by omega) (by omega)).mp (show nI (2 ^ S 0 0) ≤ nI s from h12)) (by omega)
      · skip
        refine e_iload_n dX11_local_15 rfl 3 rfl ?_
        refine e_callSi dX11_local_16 cvX11_224 rfl (cJ_pop (t := s) (by omega)) (Nat.le_of_ble_eq_true rfl) (Nat.le_refl _) (Nat.le_refl _) rfl (Nat.le_of_ble_eq_true rfl) (fun r16 s16 m16 q16 => ?_)
        obtain ⟨q16, e16, g16⟩ := q16
        rw [e16, g16]
        clear e16 g16 s16 m16
        rw [q16]
        refine e_istore [(0, .ref 127), (1, .int (nI j)), (2, .int (hI best)), (3, .int (nI s)), (4, .int (nI (npop s)))] dX11_local_19 (by decide) rfl ?_
        refine e_iload_n dX11_local_21 rfl 3 rfl ?_
        refine e_iload_n dX11_local_22 rfl 1 rfl ?_
        refine e_callSi dX11_local_23 cvX11_103 rfl (c11_isIn (nI s) (nI j)) (Nat.le_of_ble_eq_true rfl) (Nat.le_refl _) (Nat.le_refl _) rfl (Nat.le_of_ble_eq_true rfl) (fun r23 s23 m23 q23 => ?_)
        obtain ⟨q23, e23, g23⟩ := q23
        rw [e23, g23]
        clear e23 g23 s23 m23
        refine e_if_ne (t := 58) dX11_local_26 (by decide) (fun h26 => ?_) (fun h26 => ?_)
        · skip
          have h26 : ¬ r23 = 0 := h26
          refine e_iinc (nI (s + 1)) [(0, .ref 127), (1, .int (nI j)), (2, .int (hI best)), (3, .int (nI (s + 1))), (4, .int (nI (npop s)))] dX11_local_58 3 rfl (nI_1 s) (by decide) rfl ?_
          refine e_goto (t := 5) dX11_local_61 (by decide) ?_
          refine e_lv [(0, .ref 127), (1, .int (nI j)), (2, .int (hI best)), (3, .int (nI (s + 1)))] (List.forall_mem_cons.mpr ⟨List.mem_of_getElem? (i := 0) rfl, List.forall_mem_cons.mpr ⟨List.mem_of_getElem? (i := 1) rfl, List.forall_mem_cons.mpr ⟨List.mem_of_getElem? (i := 2) rfl, List.forall_mem_cons.mpr ⟨List.mem_of_getElem? (i := 3) rfl, fun _ h => absurd h List.not_mem_nil⟩⟩⟩⟩) ?_
          have h9 : s.testBit j = true := by
            rw [q23, bI_eq0, i_bit1 (by omega) (by omega)] at h26
            exact Classical.not_not.mp h26
          exact ih (s + 1) best σ1 (by omega) f1 (Bst_keep hB (fun q => absurd (h9.symm.trans q.1) (by decide)))
        · skip
          have hbit : s.testBit j = false := by
            rw [q23, bI_eq0, i_bit1 (by omega) (by omega)] at h26
            exact eq_false_of_ne_true h26
          refine e_iload_n dX11_local_29 rfl 2 rfl ?_
          refine e_bipush (v := (-5)) dX11_local_30 rfl ?_
          refine e_icmp_eq (t := 41) dX11_local_32 (by decide) (fun h32 => ?_) (fun h32 => ?_)
          · skip
            skip
            refine e_aload_n dX11_local_41 rfl 0 rfl ?_
            refine e_iload_n dX11_local_42 rfl 3 rfl ?_
            refine e_iconst (v := 1) dX11_local_43 rfl ?_
            refine e_iload_n dX11_local_44 rfl 1 rfl ?_
            refine e_ishl dX11_local_45 ?_
            rw [i_shl1 (by omega)]
            refine e_callVi dX11_local_46 cvX11_221 rfl tt_127 rfl (c11_tells hp hV (t := s) (u := 2 ^ j) (by omega) (Nat.lt_of_lt_of_le (Nat.pow_lt_pow_right (by decide) hj) (by omega)) hF1 hR1) (Nat.le_of_ble_eq_true rfl) (Nat.le_refl _) (Nat.le_refl _) rfl (Nat.le_of_ble_eq_true rfl) (fun r46 s46 m46 q46 => ?_)
            obtain ⟨q46, a1, a2⟩ := q46
            rw [a2]
            refine e_if_ne (t := 55) dX11_local_49 (by decide) (fun h49 => ?_) (fun h49 => ?_)
            · skip
              skip
              refine e_iload dX11_local_55 4 rfl ?_
              refine e_istore_n [(0, .ref 127), (1, .int (nI j)), (2, .int (nI (npop s))), (3, .int (nI s)), (4, .int (nI (npop s)))] dX11_local_57 rfl (by decide) rfl ?_
              refine e_iinc (nI (s + 1)) [(0, .ref 127), (1, .int (nI j)), (2, .int (nI (npop s))), (3, .int (nI (s + 1))), (4, .int (nI (npop s)))] dX11_local_58 3 rfl (nI_1 s) (by decide) rfl ?_
              refine e_goto (t := 5) dX11_local_61 (by decide) ?_
              refine e_lv [(0, .ref 127), (1, .int (nI j)), (2, .int (nI (npop s))), (3, .int (nI (s + 1)))] (List.forall_mem_cons.mpr ⟨List.mem_of_getElem? (i := 0) rfl, List.forall_mem_cons.mpr ⟨List.mem_of_getElem? (i := 1) rfl, List.forall_mem_cons.mpr ⟨List.mem_of_getElem? (i := 2) rfl, List.forall_mem_cons.mpr ⟨List.mem_of_getElem? (i := 3) rfl, fun _ h => absurd h List.not_mem_nil⟩⟩⟩⟩) ?_
              have hyes : LocP p S j s := ⟨hbit, by rw [q46, bI_eq0] at h49; exact Classical.not_not.mp h49⟩
              refine ih (s + 1) (some (npop s)) _ (by omega) (f1.tr a1) (Bst_new hB hyes (fun r hr => ?_))
              rw [hr] at h32
              exact absurd h32 (hI_some (by have := hbr r hr; omega))
            · skip
              skip
              refine e_goto (t := 58) dX11_local_52 (by decide) ?_
              refine e_iinc (nI (s + 1)) [(0, .ref 127), (1, .int (nI j)), (2, .int (hI best)), (3, .int (nI (s + 1))), (4, .int (nI (npop s)))] dX11_local_58 3 rfl (nI_1 s) (by decide) rfl ?_
              refine e_goto (t := 5) dX11_local_61 (by decide) ?_
              refine e_lv [(0, .ref 127), (1, .int (nI j)), (2, .int (hI best)), (3, .int (nI (s + 1)))] (List.forall_mem_cons.mpr ⟨List.mem_of_getElem? (i := 0) rfl, List.forall_mem_cons.mpr ⟨List.mem_of_getElem? (i := 1) rfl, List.forall_mem_cons.mpr ⟨List.mem_of_getElem? (i := 2) rfl, List.forall_mem_cons.mpr ⟨List.mem_of_getElem? (i := 3) rfl, fun _ h => absurd h List.not_mem_nil⟩⟩⟩⟩) ?_
              exact ih (s + 1) best _ (by omega) (f1.tr a1) (Bst_keep hB (fun q => by rw [q46, bI_eq0] at h49; exact h49 q.2))
          · skip
            skip
            refine e_iload dX11_local_35 4 rfl ?_
            refine e_iload_n dX11_local_37 rfl 2 rfl ?_
            refine e_icmp_ge (t := 58) dX11_local_38 (by decide) (fun h38 => ?_) (fun h38 => ?_)
            · skip
              skip
              refine e_iinc (nI (s + 1)) [(0, .ref 127), (1, .int (nI j)), (2, .int (hI best)), (3, .int (nI (s + 1))), (4, .int (nI (npop s)))] dX11_local_58 3 rfl (nI_1 s) (by decide) rfl ?_
              refine e_goto (t := 5) dX11_local_61 (by decide) ?_
              refine e_lv [(0, .ref 127), (1, .int (nI j)), (2, .int (hI best)), (3, .int (nI (s + 1)))] (List.forall_mem_cons.mpr ⟨List.mem_of_getElem? (i := 0) rfl, List.forall_mem_cons.mpr ⟨List.mem_of_getElem? (i := 1) rfl, List.forall_mem_cons.mpr ⟨List.mem_of_getElem? (i := 2) rfl, List.forall_mem_cons.mpr ⟨List.mem_of_getElem? (i := 3) rfl, fun _ h => absurd h List.not_mem_nil⟩⟩⟩⟩) ?_
              have hb : ∃ r, best = some r := by
                cases best with
                | none => exact absurd rfl h32
                | some r => exact ⟨r, rfl⟩
              obtain ⟨r, rfl⟩ := hb
              have := hbr r rfl
              exact ih (s + 1) (some r) σ1 (by omega) f1 (Bst_more hB ((i_le (by omega) (by omega)).mp (show nI r ≤ nI (npop s) from h38)))
            · skip
              refine e_aload_n dX11_local_41 rfl 0 rfl ?_
              refine e_iload_n dX11_local_42 rfl 3 rfl ?_
              refine e_iconst (v := 1) dX11_local_43 rfl ?_
              refine e_iload_n dX11_local_44 rfl 1 rfl ?_
              refine e_ishl dX11_local_45 ?_
              rw [i_shl1 (by omega)]
              refine e_callVi dX11_local_46 cvX11_221 rfl tt_127 rfl (c11_tells hp hV (t := s) (u := 2 ^ j) (by omega) (Nat.lt_of_lt_of_le (Nat.pow_lt_pow_right (by decide) hj) (by omega)) hF1 hR1) (Nat.le_of_ble_eq_true rfl) (Nat.le_refl _) (Nat.le_refl _) rfl (Nat.le_of_ble_eq_true rfl) (fun r46 s46 m46 q46 => ?_)
              obtain ⟨q46, a1, a2⟩ := q46
              rw [a2]
              refine e_if_ne (t := 55) dX11_local_49 (by decide) (fun h49 => ?_) (fun h49 => ?_)
              · skip
                skip
                refine e_iload dX11_local_55 4 rfl ?_
                refine e_istore_n [(0, .ref 127), (1, .int (nI j)), (2, .int (nI (npop s))), (3, .int (nI s)), (4, .int (nI (npop s)))] dX11_local_57 rfl (by decide) rfl ?_
                refine e_iinc (nI (s + 1)) [(0, .ref 127), (1, .int (nI j)), (2, .int (nI (npop s))), (3, .int (nI (s + 1))), (4, .int (nI (npop s)))] dX11_local_58 3 rfl (nI_1 s) (by decide) rfl ?_
                refine e_goto (t := 5) dX11_local_61 (by decide) ?_
                refine e_lv [(0, .ref 127), (1, .int (nI j)), (2, .int (nI (npop s))), (3, .int (nI (s + 1)))] (List.forall_mem_cons.mpr ⟨List.mem_of_getElem? (i := 0) rfl, List.forall_mem_cons.mpr ⟨List.mem_of_getElem? (i := 1) rfl, List.forall_mem_cons.mpr ⟨List.mem_of_getElem? (i := 2) rfl, List.forall_mem_cons.mpr ⟨List.mem_of_getElem? (i := 3) rfl, fun _ h => absurd h List.not_mem_nil⟩⟩⟩⟩) ?_
                have hyes : LocP p S j s := ⟨hbit, by rw [q46, bI_eq0] at h49; exact Classical.not_not.mp h49⟩
                refine ih (s + 1) (some (npop s)) _ (by omega) (f1.tr a1) (Bst_new hB hyes (fun r hr => ?_))
                rw [hr] at h38
                have := hbr r hr
                exact (i_lt (by omega) (by omega)).mp (i32_nle h38)
              · skip
                skip
                refine e_goto (t := 58) dX11_local_52 (by decide) ?_
                refine e_iinc (nI (s + 1)) [(0, .ref 127), (1, .int (nI j)), (2, .int (hI best)), (3, .int (nI (s + 1))), (4, .int (nI (npop s)))] dX11_local_58 3 rfl (nI_1 s) (by decide) rfl ?_
                refine e_goto (t := 5) dX11_local_61 (by decide) ?_
                refine e_lv [(0, .ref 127), (1, .int (nI j)), (2, .int (hI best)), (3, .int (nI (s + 1)))] (List.forall_mem_cons.mpr ⟨List.mem_of_getElem? (i := 0) rfl, List.forall_mem_cons.mpr ⟨List.mem_of_getElem? (i := 1) rfl, List.forall_mem_cons.mpr ⟨List.mem_of_getElem? (i := 2) rfl, List.forall_mem_cons.mpr ⟨List.mem_of_getElem? (i := 3) rfl, fun _ h => absurd h List.not_mem_nil⟩⟩⟩⟩) ?_
                exact ih (s + 1) best _ (by omega) (f1.tr a1) (Bst_keep hB (fun q => by rw [q46, bI_eq0] at h49; exact h49 q.2))
  refine e_bipush (v := (-5)) dX11_local_0 rfl ?_
  refine e_istore_n [(0, .ref 127), (1, .int (nI j)), (2, .int (hI none))] dX11_local_2 rfl (by decide) rfl ?_
  refine e_iconst (v := 0) dX11_local_3 rfl ?_
  refine e_istore_n [(0, .ref 127), (1, .int (nI j)), (2, .int (hI none)), (3, .int 0)] dX11_local_4 rfl (by decide) rfl ?_
  exact loop (2 ^ S 0 0) 0 none σ (by omega) FrM.rf Bst_0
