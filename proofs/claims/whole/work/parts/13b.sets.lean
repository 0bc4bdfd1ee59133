/-- the reference's scratch: lines, help and costs too -/
def FrS (σ σ' : ex_S) : Prop := (∀ i, i ≠ 127 → i ≠ 150 → σ' i = σ i) ∧ ∀ k, k < 35 ∨ 37 < k → σ' 127 k = σ 127 k
theorem FrM.S {σ σ' : ex_S} (h : FrM σ σ') : FrS σ σ' := ⟨h.1, fun k hk => h.2 k (by omega)⟩
theorem FrS.rf {σ : ex_S} : FrS σ σ := ⟨fun _ _ _ => rfl, fun _ _ => rfl⟩
theorem FrS.tr {σ σ' σ2 : ex_S} (h : FrS σ σ') (h2 : FrS σ' σ2) : FrS σ σ2 := ⟨fun i a b => (h2.1 i a b).trans (h.1 i a b), fun k a => (h2.2 k a).trans (h.2 k a)⟩
theorem FrS.set {σ : ex_S} {k : Nat} {v : Int32} (h1 : 35 ≤ k) (h2 : k ≤ 37) : FrS σ (sup σ 127 k v) := ⟨fun i a _ => sup_obj a, fun j hj => sup_idx (by omega)⟩
theorem FR.toS {σ σ' : ex_S} {p : Nat} (h : FR σ p) (hf : FrS σ σ') : FR σ' p := by
  obtain ⟨a1, a2, a3, a4, a5⟩ := h
  refine ⟨by rw [hf.2 0 (by decide)]; exact a1, by rw [hf.2 1 (by decide)]; exact a2, fun a ha b hb => by rw [hf.1 128 (by decide) (by decide)]; exact a3 a ha b hb, fun n hn => by rw [hf.1 129 (by decide) (by decide)]; exact a4 n hn, fun x hx h0 => by rw [hf.1 130 (by decide) (by decide)]; exact a5 x hx h0⟩
theorem NR.toS {σ σ' : ex_S} {S : ns_T} (h : NR σ S) (hf : FrS σ σ') : NR σ' S := by
  obtain ⟨n1, n2, n3, n4, n5⟩ := h
  refine ⟨by rw [hf.2 5 (by decide)]; exact n1, by rw [hf.2 6 (by decide)]; exact n2, by rw [hf.2 7 (by decide)]; exact n3, fun j hj => ?_, fun e he => ?_⟩
  · rw [hf.1 131 (by decide) (by decide), hf.1 132 (by decide) (by decide), hf.1 133 (by decide) (by decide), hf.1 134 (by decide) (by decide), hf.1 135 (by decide) (by decide), hf.1 136 (by decide) (by decide), hf.1 137 (by decide) (by decide)]
    exact n4 j hj
  · rw [hf.1 138 (by decide) (by decide), hf.1 139 (by decide) (by decide)]
    exact n5 e he

set_option maxRecDepth 100000 in
theorem c11_rankOf {p : Nat} (hp : gP p) {S : ns_T} (hV : VS S) {t : Nat} (ht : t < 2 ^ 31) {σ : ex_S} {μ : ex_L}(hF : FR σ p) (hR : NR σ S) : Ci 6 yX11_rankOf cX11_rankOf 3 (some .int) [.ref 127, .int (nI t)] TT σ μ (fun z' σ' μ' => z' = nI (nrk p S t) ∧ FrM σ σ' ∧ μ' = μ) := by
  refine Cl_of (by decide +kernel) (Nat.le_of_ble_eq_true rfl) ?_
  show Ev RX11 cX11_rankOf 3 6 0 0 "rankOf" (some .int) ev_ext _ _ 0 0 0 [(0, .ref 127), (1, .int (nI t))] [] TT σ μ
  have hn := hV.1
  have loop : ∀ (m i L : Nat) (σ1 : ex_S) (V : Nat → Nat), i + m = S 0 0 → L ≤ i → FrM σ σ1 → MV σ1 V L → (∀ j, j < L → V j < 2 ^ 20) → (∀ v, v ∈ lu V L 0 ↔ v ∈ fl S t i) → Ev RX11 cX11_rankOf 3 6 0 0 "rankOf" (some .int) ev_ext TT.length (fun v9 T9 σ9 μ9 => T9 = TT ∧ ∃ z9, v9 = some (.int z9) ∧ (fun z' σ' μ' => z' = nI (nrk p S t) ∧ FrM σ σ' ∧ μ' = μ) z9 σ9 μ9) 0 0 7 [(0, .ref 127), (1, .int (nI t)), (2, .int (nI i))] [] TT σ1 μ := by
    intro m
    induction m with
    | zero =>
      intro i L σ1 V hi hLi f1 f2 f3 f4
      obtain rfl : i = S 0 0 := by omega
      have hF1 := hF.to f1
      have hR1 := hR.to f1
      refine e_iload_n dX11_rankOf_7 rfl 2 rfl ?_
      refine e_aload_n dX11_rankOf_8 rfl 0 rfl ?_
      refine e_getI dX11_rankOf_9 lkX11_95 tt_127 rfl ?_
      rw [hR1.1]
      refine e_icmp_ge (t := 34) dX11_rankOf_12 (by decide) (fun h12 => ?_) (fun h12 => ?_)
      · skip
        refine e_aload_n dX11_rankOf_34 rfl 0 rfl ?_
        refine e_callVi dX11_rankOf_35 cvX11_212 rfl tt_127 rfl (c11_ranks hp (L := L) (by omega) (fun j hj => by have := f3 j hj; omega) hF1 f2) (Nat.le_of_ble_eq_true rfl) (Nat.le_refl _) (Nat.le_refl _) rfl (Nat.le_of_ble_eq_true rfl) (fun r35 s35 m35 q35 => ?_)
        obtain ⟨V9, k, rfl, a1, a2, a3, a4⟩ := q35
        rw [a4]
        refine e_reti dX11_rankOf_38 ev_nwi (Nat.le_refl _) (Nat.le_refl _) ?_
        refine ⟨?_, f1.tr ⟨fun i h1 h2 => a3 i h2, fun k9 _ => by rw [a3 127 (by decide)]⟩, rfl⟩
        have h24 : ∀ j, j < L → V j < 2 ^ 24 := fun j hj => by have := f3 j hj; omega
        have hz : ∀ j, k ≤ j → j < L → nib (V9 j) 5 = 0 := fun j _ hj => by
          refine sp_col hp (by decide) (fun w hw => ?_) ((a2.2.2.2.1 (V9 j)).mpr (sp_mem hp (Vs_lu a2.1 (by omega)) (lu_mem.mpr ⟨j, by omega, by omega, rfl⟩)))
          obtain ⟨i, g1, g2, rfl⟩ := lu_mem.mp hw
          exact nib_big (n := 5) (f3 i (by omega)) (by decide)
        rw [← Eli_rank hp h24 a2 hz]
        exact congrArg nI (grk_perm hp (Vs_lu h24 (by omega)) (fl_lt hV t (Nat.le_refl _)) f4)
      · skip
        exact absurd (show nI (S 0 0) ≤ nI (S 0 0) from (i_le (by omega) (by omega)).mpr (by omega)) h12
    | succ m ih =>
      intro i L σ1 V hi hLi f1 f2 f3 f4
      have hF1 := hF.to f1
      have hR1 := hR.to f1
      have hfm := (hV.2.2.2.2.2.2.1 i (by omega)).2.2.2.1
      refine e_iload_n dX11_rankOf_7 rfl 2 rfl ?_
      refine e_aload_n dX11_rankOf_8 rfl 0 rfl ?_
      refine e_getI dX11_rankOf_9 lkX11_95 tt_127 rfl ?_
      rw [hR1.1]
      refine e_icmp_ge (t := 34) dX11_rankOf_12 (by decide) (fun h12 => ?_) (fun h12 => ?_)
      · skip
        exact absurd ((i_le (by omega) (by omega)).mp (show nI (S 0 0) ≤ nI i from h12)) (by omega)
      · skip
        refine e_iload_n dX11_rankOf_15 rfl 1 rfl ?_
        refine e_iload_n dX11_rankOf_16 rfl 2 rfl ?_
        refine e_callSi dX11_rankOf_17 cvX11_103 rfl (c11_isIn (nI t) (nI i)) (Nat.le_of_ble_eq_true rfl) (Nat.le_refl _) (Nat.le_refl _) rfl (Nat.le_of_ble_eq_true rfl) (fun r17 s17 m17 q17 => ?_)
        obtain ⟨q17, e17, g17⟩ := q17
        rw [e17, g17]
        clear e17 g17 s17 m17
        refine e_if_eq (t := 28) dX11_rankOf_20 (by decide) (fun h20 => ?_) (fun h20 => ?_)
        · skip
          rw [q17, bI_eq0, i_bit1 (by omega) (by omega)] at h20
          have hbit := eq_false_of_ne_true h20
          refine e_iinc (nI (i + 1)) [(0, .ref 127), (1, .int (nI t)), (2, .int (nI (i + 1)))] dX11_rankOf_28 2 rfl (nI_1 i) (by decide) rfl ?_
          refine e_goto (t := 7) dX11_rankOf_31 (by decide) ?_
          exact ih (i + 1) L σ1 V (by omega) (by omega) f1 f2 f3 (fun v => by rw [fl_no hbit]; exact f4 v)
        · skip
          rw [q17, bI_eq0, i_bit1 (by omega) (by omega)] at h20
          have hbit := Classical.not_not.mp h20
          refine e_aload_n dX11_rankOf_23 rfl 0 rfl ?_
          refine e_iload_n dX11_rankOf_24 rfl 2 rfl ?_
          refine e_callVv dX11_rankOf_25 cvX11_209 rfl tt_127 rfl (c11_takes hV (V := V) (L := L) (by omega) hR1 f2 (j := i) (by omega)) (Nat.le_of_ble_eq_true rfl) (Nat.le_refl _) (Nat.le_refl _) rfl (Nat.le_of_ble_eq_true rfl) (fun s25 m25 q25 => ?_)
          obtain ⟨a1, a2, a3⟩ := q25
          rw [a3]
          refine e_iinc (nI (i + 1)) [(0, .ref 127), (1, .int (nI t)), (2, .int (nI (i + 1)))] dX11_rankOf_28 2 rfl (nI_1 i) (by decide) rfl ?_
          refine e_goto (t := 7) dX11_rankOf_31 (by decide) ?_
          refine ih (i + 1) (L + 1) _ _ (by omega) (by omega) (f1.tr a2) a1 (fun j hj => ?_) (fun v => ?_)
          · (try dsimp only)
            split
            · exact hfm
            · exact f3 j (by omega)
          · rw [fl_top hbit, List.mem_cons, ← f4 v, lu_mem, lu_mem]
            constructor
            · rintro ⟨j, g1, g2, g3⟩
              (try dsimp only at g3)
              by_cases e : j = L
              · rw [if_pos e] at g3; exact Or.inl g3
              · rw [if_neg e] at g3; exact Or.inr ⟨j, by omega, by omega, g3⟩
            · rintro (g3 | ⟨j, g1, g2, g3⟩)
              · exact ⟨L, by omega, by omega, by rw [if_pos rfl]; exact g3⟩
              · exact ⟨j, by omega, by omega, by rw [if_neg (by omega)]; exact g3⟩
  refine e_aload_n dX11_rankOf_0 rfl 0 rfl ?_
  refine e_iconst (v := 0) dX11_rankOf_1 rfl ?_
  refine e_putI dX11_rankOf_2 lkX11_202' tt_127 rfl rfl rfl ?_
  refine e_iconst (v := 0) dX11_rankOf_5 rfl ?_
  refine e_istore_n [(0, .ref 127), (1, .int (nI t)), (2, .int 0)] dX11_rankOf_6 rfl (by decide) rfl ?_
  have hM : MV (sup σ 127 35 0) (fun _ => 0) 0 := ⟨sup_same, fun j hj => absurd hj (by omega)⟩
  exact loop (S 0 0) 0 0 _ (fun _ => 0) (by omega) (by omega) ⟨fun i h1 h2 => sup_obj h1, fun k hk => sup_idx hk⟩ hM (fun j hj => absurd hj (by omega)) (fun v => by rw [lu_mem, fl_mem]; exact ⟨fun ⟨j, h⟩ => by omega, fun ⟨j, h⟩ => by omega⟩)

set_option maxRecDepth 100000 in
theorem c11_tells {p : Nat} (hp : gP p) {S : ns_T} (hV : VS S) {t u : Nat} (ht : t < 2 ^ 31) (hu : u < 2 ^ 31) {σ : ex_S} {μ : ex_L}(hF : FR σ p) (hR : NR σ S) : Ci 7 yX11_tells cX11_tells 3 (some .boolean) [.ref 127, .int (nI t), .int (nI u)] TT σ μ (fun z' σ' μ' => z' = bI (nrk p S (t ||| u) = nrk p S t) ∧ FrM σ σ' ∧ μ' = μ) := by
  refine Cl_of (by decide +kernel) (Nat.le_of_ble_eq_true rfl) ?_
  show Ev RX11 cX11_tells 3 7 0 0 "tells" (some .boolean) ev_ext _ _ 0 0 0 [(0, .ref 127), (1, .int (nI t)), (2, .int (nI u))] [] TT σ μ
  refine e_aload_n dX11_tells_0 rfl 0 rfl ?_
  refine e_iload_n dX11_tells_1 rfl 1 rfl ?_
  refine e_callVi dX11_tells_2 cvX11_215 rfl tt_127 rfl (c11_rankOf hp hV ht hF hR) (Nat.le_of_ble_eq_true rfl) (Nat.le_refl _) (Nat.le_refl _) rfl (Nat.le_of_ble_eq_true rfl) (fun r2 s2 m2 q2 => ?_)
  obtain ⟨q2, a1, a2⟩ := q2
  rw [a2]
  refine e_aload_n dX11_tells_5 rfl 0 rfl ?_
  refine e_iload_n dX11_tells_6 rfl 1 rfl ?_
  refine e_iload_n dX11_tells_7 rfl 2 rfl ?_
  refine e_ior dX11_tells_8 ?_
  rw [fa_or]
  refine e_callVi dX11_tells_9 cvX11_215 rfl tt_127 rfl (c11_rankOf hp hV (t := t ||| u) (Nat.or_lt_two_pow ht hu) (hF.to a1) (hR.to a1)) (Nat.le_of_ble_eq_true rfl) (Nat.le_refl _) (Nat.le_refl _) rfl (Nat.le_of_ble_eq_true rfl) (fun r9 s9 m9 q9 => ?_)
  obtain ⟨q9, b1, b2⟩ := q9
  rw [b2]
  refine e_icmp_ne (t := 19) dX11_tells_12 (by decide) (fun h12 => ?_) (fun h12 => ?_)
  · skip
    have l1 := nrk_le (p := p) S t
    have l2 := nrk_le (p := p) S (t ||| u)
    have ln := hV.1
    refine e_iconst (v := 0) dX11_tells_19 rfl ?_
    refine e_reti dX11_tells_20 ev_nw0 (Nat.le_refl _) (Nat.le_refl _) ?_
    refine ⟨?_, a1.tr b1, rfl⟩
    rw [q2, q9] at h12
    exact (bI_f (fun q => h12 (congrArg nI q.symm))).symm
  · skip
    have l1 := nrk_le (p := p) S t
    have l2 := nrk_le (p := p) S (t ||| u)
    have ln := hV.1
    refine e_iconst (v := 1) dX11_tells_15 rfl ?_
    refine e_goto (t := 20) dX11_tells_16 (by decide) ?_
    refine e_reti dX11_tells_20 ev_nw1 (Nat.le_refl _) (Nat.le_refl _) ?_
    refine ⟨?_, a1.tr b1, rfl⟩
    rw [q2, q9] at h12
    exact (bI_t ((i_eq (by omega) (by omega)).mp h12).symm).symm

set_option maxRecDepth 100000 in
theorem c11_there {S : ns_T} (hV : VS S) {σ : ex_S} {μ : ex_L}(hR : NR σ S) : Ci 2 yX11_there cX11_there 3 (some .int) [.ref 127] TT σ μ (fun z' σ' μ' => z' = nI (nthere S) ∧ σ' = σ ∧ μ' = μ) := by
  refine Cl_of (by decide +kernel) (Nat.le_of_ble_eq_true rfl) ?_
  show Ev RX11 cX11_there 3 2 0 0 "there" (some .int) ev_ext _ _ 0 0 0 [(0, .ref 127)] [] TT σ μ
  have hn := hV.1
  have htl := nthere_lt hV
  have h2n := two_n hV
  have loop : ∀ (m i : Nat), i + m = S 0 0 → Ev RX11 cX11_there 3 2 0 0 "there" (some .int) ev_ext TT.length (fun v9 T9 σ9 μ9 => T9 = TT ∧ ∃ z9, v9 = some (.int z9) ∧ (fun z' σ' μ' => z' = nI (nthere S) ∧ σ' = σ ∧ μ' = μ) z9 σ9 μ9) 0 0 4 [(0, .ref 127), (1, .int (nI (nthere S % 2 ^ i))), (2, .int (nI i))] [] TT σ μ := by
    intro m
    induction m with
    | zero =>
      intro i hi
      obtain rfl : i = S 0 0 := by omega
      refine e_iload_n dX11_there_4 rfl 2 rfl ?_
      refine e_aload_n dX11_there_5 rfl 0 rfl ?_
      refine e_getI dX11_there_6 lkX11_95 tt_127 rfl ?_
      rw [hR.1]
      refine e_icmp_ge (t := 33) dX11_there_9 (by decide) (fun h9 => ?_) (fun h9 => ?_)
      · skip
        refine e_iload_n dX11_there_33 rfl 1 rfl ?_
        refine e_reti dX11_there_34 ev_nwi (Nat.le_refl _) (Nat.le_refl _) ?_
        exact ⟨by rw [Nat.mod_eq_of_lt htl], rfl, rfl⟩
      · skip
        exact absurd (show nI (S 0 0) ≤ nI (S 0 0) from (i_le (by omega) (by omega)).mpr (by omega)) h9
    | succ m ih =>
      intro i hi
      have hj := (hR.2.2.2.1 i (by omega)).2.2.2.2.1
      have hb := nthere_bit (S := S) (j := i) (by omega)
      have hmb := mod_bit (nthere S) i
      refine e_iload_n dX11_there_4 rfl 2 rfl ?_
      refine e_aload_n dX11_there_5 rfl 0 rfl ?_
      refine e_getI dX11_there_6 lkX11_95 tt_127 rfl ?_
      rw [hR.1]
      refine e_icmp_ge (t := 33) dX11_there_9 (by decide) (fun h9 => ?_) (fun h9 => ?_)
      · skip
        exact absurd ((i_le (by omega) (by omega)).mp (show nI (S 0 0) ≤ nI i from h9)) (by omega)
      · skip
        refine e_aload_n dX11_there_12 rfl 0 rfl ?_
        refine e_getR dX11_there_13 lkX11_33 tt_127 rfl ?_
        refine e_iload_n dX11_there_16 rfl 2 rfl ?_
        refine e_iald dX11_there_17 tt_135 (vp_in_nI (by omega) (by decide)) ?_
        rw [i_cl (by omega), hj]
        refine e_if_ne (t := 27) dX11_there_18 (by decide) (fun h18 => ?_) (fun h18 => ?_)
        · skip
          have hm : (S 0 3).testBit i = true := by
            cases hb9 : (S 0 3).testBit i with
            | true => rfl
            | false => exact absurd (by rw [hb9]; rfl) h18
          rw [hb, hm] at hmb
          refine e_iinc (nI (i + 1)) [(0, .ref 127), (1, .int (nI (nthere S % 2 ^ i))), (2, .int (nI (i + 1)))] dX11_there_27 2 rfl (nI_1 i) (by decide) rfl ?_
          refine e_goto (t := 4) dX11_there_30 (by decide) ?_
          have h9 := ih (i + 1) (by omega)
          rw [hmb] at h9
          exact h9
        · skip
          have hm : (S 0 3).testBit i = false := by
            cases hb9 : (S 0 3).testBit i with
            | false => rfl
            | true => exact absurd (show nI 1 = nI 0 from by rw [hb9] at h18; exact h18) (by decide)
          rw [hb, hm] at hmb
          refine e_iload_n dX11_there_21 rfl 1 rfl ?_
          refine e_iconst (v := 1) dX11_there_22 rfl ?_
          refine e_iload_n dX11_there_23 rfl 2 rfl ?_
          refine e_ishl dX11_there_24 ?_
          refine e_ior dX11_there_25 ?_
          rw [i_shl1 (by omega), fa_or]
          refine e_istore_n [(0, .ref 127), (1, .int (nI (nthere S % 2 ^ i ||| 2 ^ i))), (2, .int (nI i))] dX11_there_26 rfl (by decide) rfl ?_
          refine e_iinc (nI (i + 1)) [(0, .ref 127), (1, .int (nI (nthere S % 2 ^ i ||| 2 ^ i))), (2, .int (nI (i + 1)))] dX11_there_27 2 rfl (nI_1 i) (by decide) rfl ?_
          refine e_goto (t := 4) dX11_there_30 (by decide) ?_
          have h9 := ih (i + 1) (by omega)
          rw [hmb] at h9
          exact h9
  refine e_iconst (v := 0) dX11_there_0 rfl ?_
  refine e_istore_n [(0, .ref 127), (1, .int 0)] dX11_there_1 rfl (by decide) rfl ?_
  refine e_iconst (v := 0) dX11_there_2 rfl ?_
  refine e_istore_n [(0, .ref 127), (1, .int 0), (2, .int 0)] dX11_there_3 rfl (by decide) rfl ?_
  have h9 := loop (S 0 0) 0 (by omega)
  rw [show nthere S % 2 ^ 0 = 0 from Nat.mod_one _] at h9
  exact h9

set_option maxRecDepth 100000 in
theorem c11_allData {S : ns_T} (hV : VS S) {σ : ex_S} {μ : ex_L}(hR : NR σ S) : Ci 2 yX11_allData cX11_allData 3 (some .int) [.ref 127] TT σ μ (fun z' σ' μ' => z' = nI (S 0 2) ∧ σ' = σ ∧ μ' = μ) := by
  refine Cl_of (by decide +kernel) (Nat.le_of_ble_eq_true rfl) ?_
  show Ev RX11 cX11_allData 3 2 0 0 "allData" (some .int) ev_ext _ _ 0 0 0 [(0, .ref 127)] [] TT σ μ
  have hn := hV.1
  have hd := hV.2.1
  have h2n := two_n hV
  have loop : ∀ (m i : Nat), i + m = S 0 1 → Ev RX11 cX11_allData 3 2 0 0 "allData" (some .int) ev_ext TT.length (fun v9 T9 σ9 μ9 => T9 = TT ∧ ∃ z9, v9 = some (.int z9) ∧ (fun z' σ' μ' => z' = nI (S 0 2) ∧ σ' = σ ∧ μ' = μ) z9 σ9 μ9) 0 0 4 [(0, .ref 127), (1, .int (nI (ndF S i))), (2, .int (nI i))] [] TT σ μ := by
    intro m
    induction m with
    | zero =>
      intro i hi
      obtain rfl : i = S 0 1 := by omega
      refine e_iload_n dX11_allData_4 rfl 2 rfl ?_
      refine e_aload_n dX11_allData_5 rfl 0 rfl ?_
      refine e_getI dX11_allData_6 lkX11_134 tt_127 rfl ?_
      rw [hR.2.1]
      refine e_icmp_ge (t := 29) dX11_allData_9 (by decide) (fun h9 => ?_) (fun h9 => ?_)
      · skip
        refine e_iload_n dX11_allData_29 rfl 1 rfl ?_
        refine e_reti dX11_allData_30 ev_nwi (Nat.le_refl _) (Nat.le_refl _) ?_
        exact ⟨by rw [ndF_eq hV], rfl, rfl⟩
      · skip
        exact absurd (show nI (S 0 1) ≤ nI (S 0 1) from (i_le (by omega) (by omega)).mpr (by omega)) h9
    | succ m ih =>
      intro i hi
      have hj := (hR.2.2.2.2 i (by omega)).2
      have hv := (hV.2.2.2.2.2.2.2 i (by omega)).1
      refine e_iload_n dX11_allData_4 rfl 2 rfl ?_
      refine e_aload_n dX11_allData_5 rfl 0 rfl ?_
      refine e_getI dX11_allData_6 lkX11_134 tt_127 rfl ?_
      rw [hR.2.1]
      refine e_icmp_ge (t := 29) dX11_allData_9 (by decide) (fun h9 => ?_) (fun h9 => ?_)
      · skip
        exact absurd ((i_le (by omega) (by omega)).mp (show nI (S 0 1) ≤ nI i from h9)) (by omega)
      · skip
        refine e_iload_n dX11_allData_12 rfl 1 rfl ?_
        refine e_iconst (v := 1) dX11_allData_13 rfl ?_
        refine e_aload_n dX11_allData_14 rfl 0 rfl ?_
        refine e_getR dX11_allData_15 lkX11_45 tt_127 rfl ?_
        refine e_iload_n dX11_allData_18 rfl 2 rfl ?_
        refine e_iald dX11_allData_19 tt_139 (vp_in_nI (by omega) (by decide)) ?_
        rw [i_cl (by omega), hj]
        refine e_ishl dX11_allData_20 ?_
        refine e_ior dX11_allData_21 ?_
        rw [i_shl1 (by omega), fa_or]
        refine e_istore_n [(0, .ref 127), (1, .int (nI (ndF S i ||| 2 ^ S 8 i))), (2, .int (nI i))] dX11_allData_22 rfl (by decide) rfl ?_
        refine e_iinc (nI (i + 1)) [(0, .ref 127), (1, .int (nI (ndF S i ||| 2 ^ S 8 i))), (2, .int (nI (i + 1)))] dX11_allData_23 2 rfl (nI_1 i) (by decide) rfl ?_
        refine e_goto (t := 4) dX11_allData_26 (by decide) ?_
        exact ih (i + 1) (by omega)
  refine e_iconst (v := 0) dX11_allData_0 rfl ?_
  refine e_istore_n [(0, .ref 127), (1, .int 0)] dX11_allData_1 rfl (by decide) rfl ?_
  refine e_iconst (v := 0) dX11_allData_2 rfl ?_
  refine e_istore_n [(0, .ref 127), (1, .int 0), (2, .int 0)] dX11_allData_3 rfl (by decide) rfl ?_
  exact loop (S 0 1) 0 (by omega)

theorem c6_tellsN {p : Nat} (hp : gP p) {S : ns_T} (hV : VS S) {t j : Nat} (ht : t < 2 ^ S 0 0) (hj : j < S 0 0) {σ : ex_S} {μ : ex_L}(hK : RKI σ p S) : Ci 3 yX6_tells cX6_tells 3 (some .boolean) [.ref 5, .int (nI t), .int (nI j)] TT σ μ (fun z' σ' μ' => z' = bI (nrk p S (t ||| 2 ^ j) = nrk p S t) ∧ σ' = σ ∧ μ' = μ) := by
  have h := c6_tells (σ := σ) (μ := μ) (nI t) (nI j)
  have hn := hV.1
  have l1 := nrk_le (p := p) S t
  have l2 := nrk_le (p := p) S (t ||| 2 ^ j)
  have e : bI (rk σ (nI t ||| (1 <<< (nI j &&& 31))) = rk σ (nI t)) = bI (nrk p S (t ||| 2 ^ j) = nrk p S t) := by
    rw [i_shl1 (by omega), fa_or, rk_i hV hK ht, rk_i hV hK (Nat.or_lt_two_pow ht (Nat.pow_lt_pow_right (by decide) hj))]
    unfold bI
    by_cases q : nrk p S (t ||| 2 ^ j) = nrk p S t
    · rw [if_pos q, if_pos (congrArg nI q)]
    · rw [if_neg q, if_neg (fun z => q ((i_eq (by omega) (by omega)).mp z))]
  rw [e] at h
  exact h
theorem c6_rankN {p : Nat} (hp : gP p) {S : ns_T} (hV : VS S) {t : Nat} (ht : t < 2 ^ S 0 0) {σ : ex_S} {μ : ex_L}(hK : RKI σ p S) : Ci 2 yX6_rankOf cX6_rankOf 2 (some .int) [.ref 5, .int (nI t)] TT σ μ (fun z' σ' μ' => z' = nI (nrk p S t) ∧ σ' = σ ∧ μ' = μ) := by
  have h := c6_rankOf (σ := σ) (μ := μ) (nI t)
  rwa [rk_i hV hK ht] at h
theorem i_all {n : Nat} (hn : n ≤ 10) : ((1 : Int32) <<< (nI n &&& 31)) - 1 = nI (2 ^ n - 1) := by
  rw [i_shl1 (by omega), show (1 : Int32) = nI 1 from rfl, i_sub (Nat.two_pow_pos n)]
theorem c3_everyoneN {b : Nat} (hN : NodesAt b) {S : ns_T} (hV : VS S) {σ : ex_S} {μ : ex_L}(hC : NC σ b S) : Ci 2 yX3_everyone cX3_everyone 1 (some .int) [.ref b] TT σ μ (fun z' σ' μ' => z' = nI (nall S) ∧ σ' = σ ∧ μ' = μ) := by
  have h := c3_everyone hN (σ := σ) (μ := μ)
  rwa [hC.1, i_all hV.1] at h
theorem nth_and {S : ns_T} (hV : VS S) : nall S &&& (nall S ^^^ (nall S &&& S 0 3)) = nthere S := by
  apply Nat.eq_of_testBit_eq
  intro j
  unfold nthere
  rw [Nat.testBit_and, Nat.testBit_xor, Nat.testBit_and, Nat.testBit_xor, nall_bit]
  by_cases hj : j < S 0 0
  · rw [decide_eq_true hj]
    cases (S 0 3).testBit j <;> rfl
  · rw [decide_eq_false hj, Nat.testBit_lt_two_pow (Nat.lt_of_lt_of_le hV.2.2.2.2.2.1 (Nat.pow_le_pow_right (by decide) (by omega)))]
    rfl
theorem c3_thereN {b : Nat} (hN : NodesAt b) {S : ns_T} (hV : VS S) {σ : ex_S} {μ : ex_L}(hC : NC σ b S) : Ci 3 yX3_there cX3_there 1 (some .int) [.ref b] TT σ μ (fun z' σ' μ' => z' = nI (nthere S) ∧ σ' = σ ∧ μ' = μ) := by
  have h := c3_there hN (σ := σ) (μ := μ)
  have hl := nall_lt hV
  rwa [hC.1, i_all hV.1, hC.2.2.2.1, show 2 ^ S 0 0 - 1 = nall S from rfl, not_i _ _ (by omega), nth_and hV] at h
theorem c3_isMissingN {b : Nat} (hN : NodesAt b) {S : ns_T} (hV : VS S) {σ : ex_S} {μ : ex_L}(hC : NC σ b S) {j : Nat} (hj : j < S 0 0) : Ci 2 yX3_isMissing cX3_isMissing 2 (some .boolean) [.ref b, .int (nI j)] TT σ μ (fun z' σ' μ' => z' = bI ((S 0 3).testBit j = true) ∧ σ' = σ ∧ μ' = μ) := by
  have h := c3_isMissing hN (σ := σ) (μ := μ) (nI j)
  have hn := hV.1
  have h2 := two_n hV
  have hm := hV.2.2.2.2.2.1
  have e : bI (¬ (σ b 3 >>> (nI j &&& 31)) &&& 1 = 0) = bI ((S 0 3).testBit j = true) := by
    rw [hC.2.2.2.1]
    unfold bI
    by_cases q : (S 0 3).testBit j = true
    · rw [if_pos q, if_pos (fun z => by rw [(i_bit (by omega) (by omega)).mp z] at q; cases q)]
    · rw [if_neg q, if_neg (fun z => z ((i_bit (by omega) (by omega)).mpr (eq_false_of_ne_true q)))]
  rw [e] at h
  exact h
