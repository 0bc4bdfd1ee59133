theorem i_dec (m : Nat) : nI m + (-1) = nI m - 1 := (Int32.sub_eq_add_neg (nI m) 1).symm
theorem TPC.tc {σ : ex_S} {μ : ex_L} {t : tp_T} (h : TPC σ μ t) {x i y j n : Nat} (hx : x < 6) (h1 : i + n ≤ 60) : TPC σ (lrow μ (121 + y) (va_cpy (μ (121 + x)) (μ (121 + y)) i j n)) (ntc t x i y j n) := fun k hk => by
  obtain ⟨g1, g2, g3⟩ := h k hk
  refine ⟨g1, g2, fun q hq => ?_⟩
  show _ = (if k = y ∧ j ≤ q ∧ q < j + n then t.2.2 x (i + (q - j)) else t.2.2 k q)
  by_cases e : k = y
  · subst e
    rw [lrow_same]
    by_cases e2 : j ≤ q ∧ q < j + n
    · rw [if_pos ⟨rfl, e2⟩, pk_cpy_in e2.1 e2.2]
      exact (h x hx).2.2 _ (by omega)
    · rw [if_neg (fun z => e2 z.2), pk_cpy_out (by omega)]
      exact g3 q hq
  · rw [if_neg (fun z => e z.1), lrow_obj (by omega)]
    exact g3 q hq
theorem TPR.tc {σ : ex_S} {μ μ1 : ex_L} {t : tp_T} (h : TPR σ μ t) {x i y j n : Nat} (hx : x < 6) (h1 : i + n ≤ 60) (h2 : j + n ≤ 60)
    (hf : ∀ q, μ1 153 q = if 60 * y + j ≤ q ∧ q < 60 * y + j + n then μ 153 (60 * x + i + (q - (60 * y + j))) else μ 153 q) : TPR σ μ1 (ntc t x i y j n) := fun k hk => by
  obtain ⟨g1, g2, g3⟩ := h k hk
  refine ⟨g1, g2, fun q hq => ?_⟩
  show _ = (if k = y ∧ j ≤ q ∧ q < j + n then t.2.2 x (i + (q - j)) else t.2.2 k q)
  rw [hf]
  by_cases e : k = y ∧ j ≤ q ∧ q < j + n
  · rw [if_pos e, if_pos (by omega), show 60 * x + i + (60 * k + q - (60 * y + j)) = 60 * x + (i + (q - j)) by omega]
    exact (h x hx).2.2 _ (by omega)
  · rw [if_neg e, if_neg (by omega)]
    exact g3 q hq

set_option maxRecDepth 100000 in
theorem c10_shift {t : tp_T} (hV : TPV t) {x i y j n : Int32} {σ : ex_S} {μ : ex_L}(hC : TPC σ μ t) : Ci 5 yX10_shift cX10_shift 6 (some .int) [.ref 0, .int x, .int i, .int y, .int j, .int n] TT σ μ (fun z' σ' μ' => z' = (nshift t x i y j n).1 ∧ TPC σ' μ' (nshift t x i y j n).2 ∧ (∀ i, i ≠ 118 → i ≠ 119 → σ' i = σ i) ∧ (∀ i, (i < 121 ∨ 126 < i) → μ' i = μ i)) := by
  refine Cl_of (by decide +kernel) (Nat.le_of_ble_eq_true rfl) ?_
  show Ev RX10 cX10_shift 6 5 0 0 "shift" (some .int) ev_ext _ _ 0 0 0 [(0, .ref 0), (1, .int x), (2, .int i), (3, .int y), (4, .int j), (5, .int n)] [] TT σ μ
  refine e_iload_n dX10_shift_0 rfl 1 rfl ?_
  refine e_callSi dX10_shift_1 cvX10_350 rfl (c9_has (x := x)) (Nat.le_of_ble_eq_true rfl) (Nat.le_refl _) (Nat.le_refl _) rfl (Nat.le_of_ble_eq_true rfl) (fun r1 s1 m1 q1 => ?_)
  obtain ⟨q1, e1, g1⟩ := q1
  rw [e1, g1]
  clear e1 g1 s1 m1
  refine e_if_eq (t := 14) dX10_shift_4 (by decide) (fun h4 => ?_) (fun h4 => ?_)
  · skip
    rw [q1, bI_eq0] at h4
    refine e_iconst (v := (-1)) dX10_shift_14 rfl ?_
    refine e_reti dX10_shift_15 ev_nwi (Nat.le_refl _) (Nat.le_refl _) ?_
    have hr : nshift t x i y j n = (-1, t) := by
      unfold nshift
      rw [cif_f (fun z => h4 z.1)]
    rw [hr]
    exact ⟨rfl, hC, fun _ _ _ => rfl, fun _ _ => rfl⟩
  · skip
    rw [q1, bI_eq0] at h4
    have hX := Classical.not_not.mp h4
    refine e_iload_n dX10_shift_7 rfl 3 rfl ?_
    refine e_callSi dX10_shift_8 cvX10_350 rfl (c9_has (x := y)) (Nat.le_of_ble_eq_true rfl) (Nat.le_refl _) (Nat.le_refl _) rfl (Nat.le_of_ble_eq_true rfl) (fun r8 s8 m8 q8 => ?_)
    obtain ⟨q8, e8, g8⟩ := q8
    rw [e8, g8]
    clear e8 g8 s8 m8
    refine e_if_ne (t := 16) dX10_shift_11 (by decide) (fun h11 => ?_) (fun h11 => ?_)
    · skip
      rw [q8, bI_eq0] at h11
      have hY := Classical.not_not.mp h11
      obtain ⟨k, hk, rfl⟩ := i_of (x := x) (m := 5) (by omega) hX.1 (show _ ≤ nI (5) from hX.2)
      obtain ⟨e, he, rfl⟩ := i_of (x := y) (m := 5) (by omega) hY.1 (show _ ≤ nI (5) from hY.2)
      have hk5 := h05 hk
      have he5 := h05 he
      obtain ⟨g1, g2, g3⟩ := hC k (by omega)
      obtain ⟨w1, w2⟩ := hV k (by omega)
      obtain ⟨f1, f2, f3⟩ := hC e (by omega)
      obtain ⟨v1, v2⟩ := hV e (by omega)
      refine e_aload_n dX10_shift_16 rfl 0 rfl ?_
      refine e_getR dX10_shift_17 lkX10_81 tt_0 rfl ?_
      refine e_getR dX10_shift_20 lkX10_351 tt_117 rfl ?_
      refine e_iload_n dX10_shift_23 rfl 1 rfl ?_
      refine e_iald dX10_shift_24 tt_118 (vp_in_nI (by omega) (by decide)) ?_
      refine e_iconst (v := (-1)) dX10_shift_25 rfl ?_
      refine e_icmp_eq (t := 42) dX10_shift_26 (by decide) (fun h26 => ?_) (fun h26 => ?_)
      · skip
        rw [i_cl (show k < 2 ^ 31 by omega), g1] at h26
        refine e_bipush (v := (-11)) dX10_shift_42 rfl ?_
        refine e_reti dX10_shift_44 ev_nwi (Nat.le_refl _) (Nat.le_refl _) ?_
        have hr : nshift t (nI k) i (nI e) j n = (-11, t) := by
          unfold nshift
          rw [cif_t ⟨hk5, he5⟩, i_cl (show k < 2 ^ 31 by omega), i_cl (show e < 2 ^ 31 by omega), cif_t (Or.inl h26)]
        rw [hr]
        exact ⟨rfl, hC, fun _ _ _ => rfl, fun _ _ => rfl⟩
      · skip
        rw [i_cl (show k < 2 ^ 31 by omega), g1] at h26
        refine e_aload_n dX10_shift_29 rfl 0 rfl ?_
        refine e_getR dX10_shift_30 lkX10_81 tt_0 rfl ?_
        refine e_getR dX10_shift_33 lkX10_351 tt_117 rfl ?_
        refine e_iload_n dX10_shift_36 rfl 3 rfl ?_
        refine e_iald dX10_shift_37 tt_118 (vp_in_nI (by omega) (by decide)) ?_
        refine e_iconst (v := (-1)) dX10_shift_38 rfl ?_
        refine e_icmp_ne (t := 45) dX10_shift_39 (by decide) (fun h39 => ?_) (fun h39 => ?_)
        · skip
          rw [i_cl (show e < 2 ^ 31 by omega), f1] at h39
          have hns : ¬ (t.1 k = -1 ∨ t.1 e = -1) := fun z => z.elim h26 h39
          refine e_aload_n dX10_shift_45 rfl 0 rfl ?_
          refine e_getR dX10_shift_46 lkX10_81 tt_0 rfl ?_
          refine e_getR dX10_shift_49 lkX10_351 tt_117 rfl ?_
          refine e_iload_n dX10_shift_52 rfl 1 rfl ?_
          refine e_iald dX10_shift_53 tt_118 (vp_in_nI (by omega) (by decide)) ?_
          refine e_aload_n dX10_shift_54 rfl 0 rfl ?_
          refine e_getR dX10_shift_55 lkX10_81 tt_0 rfl ?_
          refine e_getR dX10_shift_58 lkX10_351 tt_117 rfl ?_
          refine e_iload_n dX10_shift_61 rfl 3 rfl ?_
          refine e_iald dX10_shift_62 tt_118 (vp_in_nI (by omega) (by decide)) ?_
          refine e_icmp_eq (t := 69) dX10_shift_63 (by decide) (fun h63 => ?_) (fun h63 => ?_)
          · skip
            rw [i_cl (show k < 2 ^ 31 by omega), g1, i_cl (show e < 2 ^ 31 by omega), f1] at h63
            refine e_aload_n dX10_shift_69 rfl 0 rfl ?_
            refine e_getR dX10_shift_70 lkX10_81 tt_0 rfl ?_
            refine e_iload_n dX10_shift_73 rfl 1 rfl ?_
            refine e_iload_n dX10_shift_74 rfl 2 rfl ?_
            refine e_iload dX10_shift_75 5 rfl ?_
            refine e_callVi dX10_shift_77 cvX10_378 rfl tt_117 rfl (c9_hasRun hV (k := k) (by omega) (i := i) (n := n) hC) (Nat.le_of_ble_eq_true rfl) (Nat.le_refl _) (Nat.le_refl _) rfl (Nat.le_of_ble_eq_true rfl) (fun r77 s77 m77 q77 => ?_)
            obtain ⟨q77, e77, g77⟩ := q77
            rw [e77, g77]
            clear e77 g77 s77 m77
            refine e_if_eq (t := 98) dX10_shift_80 (by decide) (fun h80 => ?_) (fun h80 => ?_)
            · skip
              skip
              refine e_bipush (v := (-13)) dX10_shift_98 rfl ?_
              refine e_reti dX10_shift_100 ev_nwi (Nat.le_refl _) (Nat.le_refl _) ?_
              have hr : nshift t (nI k) i (nI e) j n = (-13, t) := by
                unfold nshift
                rw [cif_t ⟨hk5, he5⟩, i_cl (show k < 2 ^ 31 by omega), i_cl (show e < 2 ^ 31 by omega), cif_f hns, cif_t h63, cif_f (fun z => by
                  rcases q77 with ⟨q, _⟩ | ⟨_, q⟩
                  · rw [q] at h80; exact absurd h80 (by decide)
                  · exact q z.1)]
              rw [hr]
              exact ⟨rfl, hC, fun _ _ _ => rfl, fun _ _ => rfl⟩
            · skip
              have hr1 : Run i n (t.2.1 k) := by
                rcases q77 with ⟨_, q⟩ | ⟨q, _⟩
                · exact q
                · exact absurd q h80
              refine e_aload_n dX10_shift_83 rfl 0 rfl ?_
              refine e_getR dX10_shift_84 lkX10_81 tt_0 rfl ?_
              refine e_iload_n dX10_shift_87 rfl 3 rfl ?_
              refine e_iload dX10_shift_88 4 rfl ?_
              refine e_iload dX10_shift_90 5 rfl ?_
              refine e_callVi dX10_shift_92 cvX10_378 rfl tt_117 rfl (c9_hasRun hV (k := e) (by omega) (i := j) (n := n) hC) (Nat.le_of_ble_eq_true rfl) (Nat.le_refl _) (Nat.le_refl _) rfl (Nat.le_of_ble_eq_true rfl) (fun r92 s92 m92 q92 => ?_)
              obtain ⟨q92, e92, g92⟩ := q92
              rw [e92, g92]
              clear e92 g92 s92 m92
              refine e_if_ne (t := 101) dX10_shift_95 (by decide) (fun h95 => ?_) (fun h95 => ?_)
              · skip
                have hr2 : Run j n (t.2.1 e) := by
                  rcases q92 with ⟨_, q⟩ | ⟨q, _⟩
                  · exact q
                  · exact absurd q h95
                obtain ⟨a, b, hia, hib, hab⟩ := hr1.nat w1
                subst hia hib
                obtain ⟨d, b2, hid, hib2, hdb⟩ := hr2.nat v1
                subst hid
                obtain rfl : b = b2 := (i_eq (by omega) (by omega)).mp hib2
                refine e_aload_n dX10_shift_101 rfl 0 rfl ?_
                refine e_getR dX10_shift_102 lkX10_81 tt_0 rfl ?_
                refine e_getR dX10_shift_105 lkX10_357 tt_117 rfl ?_
                refine e_iload_n dX10_shift_108 rfl 1 rfl ?_
                refine e_aald dX10_shift_109 tt_120 (Or.inr (Or.inl rfl)) (vp_in_nI (by omega) (by decide)) (by rw [i_cl (by omega)]; exact tape_at (by omega)) ?_
                refine e_iload_n dX10_shift_110 rfl 2 rfl ?_
                refine e_aload_n dX10_shift_111 rfl 0 rfl ?_
                refine e_getR dX10_shift_112 lkX10_81 tt_0 rfl ?_
                refine e_getR dX10_shift_115 lkX10_357 tt_117 rfl ?_
                refine e_iload_n dX10_shift_118 rfl 3 rfl ?_
                refine e_aald dX10_shift_119 tt_120 (Or.inr (Or.inl rfl)) (vp_in_nI (by omega) (by decide)) (by rw [i_cl (by omega)]; exact tape_at (by omega)) ?_
                refine e_iload dX10_shift_120 4 rfl ?_
                refine e_iload dX10_shift_122 5 rfl ?_
                refine e_lcopy dX10_shift_124 kaX10_381 (tape_row (show k < 6 by omega)) (tape_row (show e < 6 by omega)) (fun z => absurd (i_nn (show a < 2 ^ 31 by omega)) (nlt_0 z)) (fun z => absurd (i_nn (show d < 2 ^ 31 by omega)) (nlt_0 z)) (fun z => absurd (i_nn (show b < 2 ^ 31 by omega)) (nlt_0 z)) (by rw [i_cl (show a < 2 ^ 31 by omega), i_cl (show b < 2 ^ 31 by omega)]; omega) (by rw [i_cl (show d < 2 ^ 31 by omega), i_cl (show b < 2 ^ 31 by omega)]; omega) (Nat.le_of_ble_eq_true rfl) (Nat.le_of_ble_eq_true rfl) ?_
                rw [i_cl (show a < 2 ^ 31 by omega), i_cl (show d < 2 ^ 31 by omega), i_cl (show b < 2 ^ 31 by omega)]
                refine e_iload dX10_shift_127 5 rfl ?_
                refine e_reti dX10_shift_129 ev_nwi (Nat.le_refl _) (Nat.le_refl _) ?_
                have hr : nshift t (nI k) (nI a) (nI e) (nI d) (nI b) = (nI b, ntc t k a e d b) := by
                  unfold nshift
                  rw [cif_t ⟨hk5, he5⟩, i_cl (show k < 2 ^ 31 by omega), i_cl (show e < 2 ^ 31 by omega), cif_f hns, cif_t h63, cif_t ⟨hr1, hr2⟩, i_cl (show a < 2 ^ 31 by omega), i_cl (show d < 2 ^ 31 by omega), i_cl (show b < 2 ^ 31 by omega)]
                rw [hr]
                exact ⟨rfl, hC.tc (by omega) (by omega), fun _ _ _ => rfl, fun i hi => lrow_obj (by omega)⟩
              · skip
                skip
                refine e_bipush (v := (-13)) dX10_shift_98 rfl ?_
                refine e_reti dX10_shift_100 ev_nwi (Nat.le_refl _) (Nat.le_refl _) ?_
                have hr : nshift t (nI k) i (nI e) j n = (-13, t) := by
                  unfold nshift
                  rw [cif_t ⟨hk5, he5⟩, i_cl (show k < 2 ^ 31 by omega), i_cl (show e < 2 ^ 31 by omega), cif_f hns, cif_t h63, cif_f (fun z => by
                    rcases q92 with ⟨q, _⟩ | ⟨_, q⟩
                    · rw [q] at h95; exact absurd h95 (by decide)
                    · exact q z.2)]
                rw [hr]
                exact ⟨rfl, hC, fun _ _ _ => rfl, fun _ _ => rfl⟩
          · skip
            rw [i_cl (show k < 2 ^ 31 by omega), g1, i_cl (show e < 2 ^ 31 by omega), f1] at h63
            refine e_bipush (v := (-12)) dX10_shift_66 rfl ?_
            refine e_reti dX10_shift_68 ev_nwi (Nat.le_refl _) (Nat.le_refl _) ?_
            have hr : nshift t (nI k) i (nI e) j n = (-12, t) := by
              unfold nshift
              rw [cif_t ⟨hk5, he5⟩, i_cl (show k < 2 ^ 31 by omega), i_cl (show e < 2 ^ 31 by omega), cif_f hns, cif_f h63]
            rw [hr]
            exact ⟨rfl, hC, fun _ _ _ => rfl, fun _ _ => rfl⟩
        · skip
          rw [i_cl (show e < 2 ^ 31 by omega), f1] at h39
          refine e_bipush (v := (-11)) dX10_shift_42 rfl ?_
          refine e_reti dX10_shift_44 ev_nwi (Nat.le_refl _) (Nat.le_refl _) ?_
          have hr : nshift t (nI k) i (nI e) j n = (-11, t) := by
            unfold nshift
            rw [cif_t ⟨hk5, he5⟩, i_cl (show k < 2 ^ 31 by omega), i_cl (show e < 2 ^ 31 by omega), cif_t (Or.inr h39)]
          rw [hr]
          exact ⟨rfl, hC, fun _ _ _ => rfl, fun _ _ => rfl⟩
    · skip
      rw [q8] at h11
      have h11 := bI_eq0.mp h11
      refine e_iconst (v := (-1)) dX10_shift_14 rfl ?_
      refine e_reti dX10_shift_15 ev_nwi (Nat.le_refl _) (Nat.le_refl _) ?_
      have hr : nshift t x i y j n = (-1, t) := by
        unfold nshift
        rw [cif_f (fun z => h11 z.2)]
      rw [hr]
      exact ⟨rfl, hC, fun _ _ _ => rfl, fun _ _ => rfl⟩

set_option maxRecDepth 100000 in
theorem c11_shift {t : tp_T} (hV : TPV t) {x i y j n : Int32} {σ : ex_S} {μ : ex_L}(hC : TPR σ μ t) : Ci 5 yX11_shift cX11_shift 7 (some .int) [.ref 127, .int x, .int i, .int y, .int j, .int n] TT σ μ (fun z' σ' μ' => z' = (nshift t x i y j n).1 ∧ TPR σ' μ' (nshift t x i y j n).2 ∧ σ' = σ ∧ (∀ i, i ≠ 153 → μ' i = μ i)) := by
  refine Cl_of (by decide +kernel) (Nat.le_of_ble_eq_true rfl) ?_
  show Ev RX11 cX11_shift 7 5 0 0 "shift" (some .int) ev_ext _ _ 0 0 0 [(0, .ref 127), (1, .int x), (2, .int i), (3, .int y), (4, .int j), (5, .int n)] [] TT σ μ
  have fwd : ∀ (k a e d b : Nat), k < 6 → e < 6 → a + b ≤ 60 → d + b ≤ 60 → nshift t x i y j n = (nI b, ntc t k a e d b) → (k ≠ e ∨ d ≤ a) → ∀ (m s : Nat) (μ1 : ex_L), s + m = b → (∀ j, j ≠ 153 → μ1 j = μ j) → (∀ q, μ1 153 q = if 60 * e + d ≤ q ∧ q < 60 * e + d + s then μ 153 (60 * k + a + (q - (60 * e + d))) else μ 153 q) → Ev RX11 cX11_shift 7 5 0 0 "shift" (some .int) ev_ext TT.length (fun v9 T9 σ9 μ9 => T9 = TT ∧ ∃ z9, v9 = some (.int z9) ∧ (fun z' σ' μ' => z' = (nshift t x i y j n).1 ∧ TPR σ' μ' (nshift t x i y j n).2 ∧ σ' = σ ∧ (∀ i, i ≠ 153 → μ' i = μ i)) z9 σ9 μ9) 0 0 170 [(0, .ref 127), (1, .int (nI k)), (2, .int (nI a)), (3, .int (nI e)), (4, .int (nI d)), (5, .int (nI b)), (6, .int (nI s))] [] TT σ μ1 := by
    intro k a e d b hk he hab hdb hr hov m
    induction m with
    | zero =>
      intro s μ1 hs f1 f2
      obtain rfl : s = b := by omega
      refine e_iload dX11_shift_170 6 rfl ?_
      refine e_iload dX11_shift_172 5 rfl ?_
      refine e_icmp_ge (t := 212) dX11_shift_174 (by decide) (fun h174 => ?_) (fun h174 => ?_)
      · skip
        refine e_iload dX11_shift_212 5 rfl ?_
        refine e_reti dX11_shift_214 ev_nwi (Nat.le_refl _) (Nat.le_refl _) ?_
        rw [hr]
        exact ⟨rfl, hC.tc hk hab hdb f2, rfl, f1⟩
      · skip
        exact absurd (show nI s ≤ nI s from (i_le (by omega) (by omega)).mpr (by omega)) h174
    | succ m ih =>
      intro s μ1 hs f1 f2
      refine e_iload dX11_shift_170 6 rfl ?_
      refine e_iload dX11_shift_172 5 rfl ?_
      refine e_icmp_ge (t := 212) dX11_shift_174 (by decide) (fun h174 => ?_) (fun h174 => ?_)
      · skip
        exact absurd ((i_le (by omega) (by omega)).mp (show nI b ≤ nI s from h174)) (by omega)
      · skip
        refine e_aload_n dX11_shift_177 rfl 0 rfl ?_
        refine e_getR dX11_shift_178 lkX11_87 tt_127 rfl ?_
        refine e_bipush (v := 60) dX11_shift_181 rfl ?_
        refine e_iload_n dX11_shift_183 rfl 3 rfl ?_
        refine e_imul dX11_shift_184 ?_
        refine e_iload dX11_shift_185 4 rfl ?_
        refine e_iadd dX11_shift_187 ?_
        refine e_iload dX11_shift_188 6 rfl ?_
        refine e_iadd dX11_shift_190 ?_
        rw [nI_60, i_add]
        refine e_aload_n dX11_shift_191 rfl 0 rfl ?_
        refine e_getR dX11_shift_192 lkX11_87 tt_127 rfl ?_
        refine e_bipush (v := 60) dX11_shift_195 rfl ?_
        refine e_iload_n dX11_shift_197 rfl 1 rfl ?_
        refine e_imul dX11_shift_198 ?_
        refine e_iload_n dX11_shift_199 rfl 2 rfl ?_
        refine e_iadd dX11_shift_200 ?_
        refine e_iload dX11_shift_201 6 rfl ?_
        refine e_iadd dX11_shift_203 ?_
        rw [nI_60, i_add]
        refine e_lald dX11_shift_204 tt_153 (vp_in_nI (by omega) (by decide)) ?_
        refine e_last dX11_shift_205 tt_153 (vp_in_nI (by omega) (by decide)) ?_
        rw [i_cl (show 60 * k + a + s < 2 ^ 31 by omega), i_cl (show 60 * e + d + s < 2 ^ 31 by omega)]
        refine e_iinc (nI (s + 1)) [(0, .ref 127), (1, .int (nI k)), (2, .int (nI a)), (3, .int (nI e)), (4, .int (nI d)), (5, .int (nI b)), (6, .int (nI (s + 1)))] dX11_shift_206 6 rfl (nI_1 s) (by decide) rfl ?_
        refine e_goto (t := 170) dX11_shift_209 (by decide) ?_
        refine ih (s + 1) (lup μ1 153 (60 * e + d + s) (μ1 153 (60 * k + a + s))) (by omega) (fun j hj => by rw [lup_obj hj]; exact f1 j hj) (fun q => ?_)
        have hval : μ1 153 (60 * k + a + s) = μ 153 (60 * k + a + s) := by rw [f2, if_neg (by omega)]
        by_cases e0 : q = 60 * e + d + s
        · rw [e0, lup_same, hval, if_pos (by omega)]
          exact congrArg _ (by omega)
        · rw [lup_idx e0, f2]
          by_cases e2 : 60 * e + d ≤ q ∧ q < 60 * e + d + s
          · rw [if_pos e2, if_pos (by omega)]
          · rw [if_neg e2, if_neg (by omega)]
  have bwd : ∀ (k a e d b : Nat), k < 6 → e < 6 → a + b ≤ 60 → d + b ≤ 60 → nshift t x i y j n = (nI b, ntc t k a e d b) → k = e → a < d → ∀ (m : Nat) (μ1 : ex_L), m ≤ b → (∀ j, j ≠ 153 → μ1 j = μ j) → (∀ q, μ1 153 q = if 60 * e + d + m ≤ q ∧ q < 60 * e + d + b then μ 153 (60 * k + a + (q - (60 * e + d))) else μ 153 q) → Ev RX11 cX11_shift 7 5 0 0 "shift" (some .int) ev_ext TT.length (fun v9 T9 σ9 μ9 => T9 = TT ∧ ∃ z9, v9 = some (.int z9) ∧ (fun z' σ' μ' => z' = (nshift t x i y j n).1 ∧ TPR σ' μ' (nshift t x i y j n).2 ∧ σ' = σ ∧ (∀ i, i ≠ 153 → μ' i = μ i)) z9 σ9 μ9) 0 0 124 [(0, .ref 127), (1, .int (nI k)), (2, .int (nI a)), (3, .int (nI e)), (4, .int (nI d)), (5, .int (nI b)), (6, .int (nI m - 1))] [] TT σ μ1 := by
    intro k a e d b hk he hab hdb hr hke had m
    induction m with
    | zero =>
      intro μ1 hs f1 f2
      refine e_iload dX11_shift_124 6 rfl ?_
      refine e_if_lt (t := 164) dX11_shift_126 (by decide) (fun h126 => ?_) (fun h126 => ?_)
      · skip
        refine e_goto (t := 212) dX11_shift_164 (by decide) ?_
        refine e_iload dX11_shift_212 5 rfl ?_
        refine e_reti dX11_shift_214 ev_nwi (Nat.le_refl _) (Nat.le_refl _) ?_
        rw [hr]
        exact ⟨rfl, hC.tc hk hab hdb (fun q => by rw [f2, Nat.add_zero]), rfl, f1⟩
      · skip
        exact absurd (by decide) h126
    | succ m ih =>
      intro μ1 hs f1 f2
      rw [show nI (m + 1) - 1 = nI m from (i_sub (a := m + 1) (b := 1) (by omega)).trans (by rw [Nat.add_sub_cancel])]
      refine e_iload dX11_shift_124 6 rfl ?_
      refine e_if_lt (t := 164) dX11_shift_126 (by decide) (fun h126 => ?_) (fun h126 => ?_)
      · skip
        exact absurd (i_nn (show m < 2 ^ 31 by omega)) (nlt_0 h126)
      · skip
        refine e_aload_n dX11_shift_129 rfl 0 rfl ?_
        refine e_getR dX11_shift_130 lkX11_87 tt_127 rfl ?_
        refine e_bipush (v := 60) dX11_shift_133 rfl ?_
        refine e_iload_n dX11_shift_135 rfl 3 rfl ?_
        refine e_imul dX11_shift_136 ?_
        refine e_iload dX11_shift_137 4 rfl ?_
        refine e_iadd dX11_shift_139 ?_
        refine e_iload dX11_shift_140 6 rfl ?_
        refine e_iadd dX11_shift_142 ?_
        rw [nI_60, i_add]
        refine e_aload_n dX11_shift_143 rfl 0 rfl ?_
        refine e_getR dX11_shift_144 lkX11_87 tt_127 rfl ?_
        refine e_bipush (v := 60) dX11_shift_147 rfl ?_
        refine e_iload_n dX11_shift_149 rfl 1 rfl ?_
        refine e_imul dX11_shift_150 ?_
        refine e_iload_n dX11_shift_151 rfl 2 rfl ?_
        refine e_iadd dX11_shift_152 ?_
        refine e_iload dX11_shift_153 6 rfl ?_
        refine e_iadd dX11_shift_155 ?_
        rw [nI_60, i_add]
        refine e_lald dX11_shift_156 tt_153 (vp_in_nI (by omega) (by decide)) ?_
        refine e_last dX11_shift_157 tt_153 (vp_in_nI (by omega) (by decide)) ?_
        rw [i_cl (show 60 * k + a + m < 2 ^ 31 by omega), i_cl (show 60 * e + d + m < 2 ^ 31 by omega)]
        refine e_iinc (nI m - 1) [(0, .ref 127), (1, .int (nI k)), (2, .int (nI a)), (3, .int (nI e)), (4, .int (nI d)), (5, .int (nI b)), (6, .int (nI m - 1))] dX11_shift_158 6 rfl (i_dec m) (by decide) rfl ?_
        refine e_goto (t := 124) dX11_shift_161 (by decide) ?_
        refine ih (lup μ1 153 (60 * e + d + m) (μ1 153 (60 * k + a + m))) (by omega) (fun j hj => by rw [lup_obj hj]; exact f1 j hj) (fun q => ?_)
        have hval : μ1 153 (60 * k + a + m) = μ 153 (60 * k + a + m) := by rw [f2, if_neg (by omega)]
        by_cases e0 : q = 60 * e + d + m
        · rw [e0, lup_same, hval, if_pos (by omega)]
          exact congrArg _ (by omega)
        · rw [lup_idx e0, f2]
          by_cases e2 : 60 * e + d + (m + 1) ≤ q ∧ q < 60 * e + d + b
          · rw [if_pos e2, if_pos (by omega)]
          · rw [if_neg e2, if_neg (by omega)]
  refine e_iload_n dX11_shift_0 rfl 1 rfl ?_
  refine e_callSi dX11_shift_1 cvX11_296 rfl (c11_isTape x) (Nat.le_of_ble_eq_true rfl) (Nat.le_refl _) (Nat.le_refl _) rfl (Nat.le_of_ble_eq_true rfl) (fun r1 s1 m1 q1 => ?_)
  obtain ⟨q1, e1, g1⟩ := q1
  rw [e1, g1]
  clear e1 g1 s1 m1
  refine e_if_eq (t := 14) dX11_shift_4 (by decide) (fun h4 => ?_) (fun h4 => ?_)
  · skip
    rw [q1, bI_eq0] at h4
    refine e_iconst (v := (-1)) dX11_shift_14 rfl ?_
    refine e_reti dX11_shift_15 ev_nwi (Nat.le_refl _) (Nat.le_refl _) ?_
    have hr : nshift t x i y j n = (-1, t) := by
      unfold nshift
      rw [cif_f (fun z => h4 z.1)]
    rw [hr]
    exact ⟨rfl, hC, rfl, fun _ _ => rfl⟩
  · skip
    rw [q1, bI_eq0] at h4
    have hX := Classical.not_not.mp h4
    refine e_iload_n dX11_shift_7 rfl 3 rfl ?_
    refine e_callSi dX11_shift_8 cvX11_296 rfl (c11_isTape y) (Nat.le_of_ble_eq_true rfl) (Nat.le_refl _) (Nat.le_refl _) rfl (Nat.le_of_ble_eq_true rfl) (fun r8 s8 m8 q8 => ?_)
    obtain ⟨q8, e8, g8⟩ := q8
    rw [e8, g8]
    clear e8 g8 s8 m8
    refine e_if_ne (t := 16) dX11_shift_11 (by decide) (fun h11 => ?_) (fun h11 => ?_)
    · skip
      rw [q8, bI_eq0] at h11
      have hY := Classical.not_not.mp h11
      obtain ⟨k, hk, rfl⟩ := i_of (x := x) (m := 5) (by omega) hX.1 (show _ ≤ nI (5) from hX.2)
      obtain ⟨e, he, rfl⟩ := i_of (x := y) (m := 5) (by omega) hY.1 (show _ ≤ nI (5) from hY.2)
      have hk5 := h05 hk
      have he5 := h05 he
      obtain ⟨g1, g2, g3⟩ := hC k (by omega)
      obtain ⟨w1, w2⟩ := hV k (by omega)
      obtain ⟨f1, f2, f3⟩ := hC e (by omega)
      obtain ⟨v1, v2⟩ := hV e (by omega)
      refine e_aload_n dX11_shift_16 rfl 0 rfl ?_
      refine e_getR dX11_shift_17 lkX11_81 tt_127 rfl ?_
      refine e_iload_n dX11_shift_20 rfl 1 rfl ?_
      refine e_iald dX11_shift_21 tt_151 (vp_in_nI (by omega) (by decide)) ?_
      refine e_if_lt (t := 34) dX11_shift_22 (by decide) (fun h22 => ?_) (fun h22 => ?_)
      · skip
        rw [i_cl (show k < 2 ^ 31 by omega), g1] at h22
        refine e_bipush (v := (-11)) dX11_shift_34 rfl ?_
        refine e_reti dX11_shift_36 ev_nwi (Nat.le_refl _) (Nat.le_refl _) ?_
        have hr : nshift t (nI k) i (nI e) j n = (-11, t) := by
          unfold nshift
          rw [cif_t ⟨hk5, he5⟩, i_cl (show k < 2 ^ 31 by omega), i_cl (show e < 2 ^ 31 by omega), cif_t (Or.inl ((t_m1 hV (by omega)).mpr h22))]
        rw [hr]
        exact ⟨rfl, hC, rfl, fun _ _ => rfl⟩
      · skip
        rw [i_cl (show k < 2 ^ 31 by omega), g1] at h22
        refine e_aload_n dX11_shift_25 rfl 0 rfl ?_
        refine e_getR dX11_shift_26 lkX11_81 tt_127 rfl ?_
        refine e_iload_n dX11_shift_29 rfl 3 rfl ?_
        refine e_iald dX11_shift_30 tt_151 (vp_in_nI (by omega) (by decide)) ?_
        refine e_if_ge (t := 37) dX11_shift_31 (by decide) (fun h31 => ?_) (fun h31 => ?_)
        · skip
          rw [i_cl (show e < 2 ^ 31 by omega), f1] at h31
          have hns : ¬ (t.1 k = -1 ∨ t.1 e = -1) := fun z => z.elim (fun q => h22 ((t_m1 hV (by omega)).mp q)) (m1_n h31)
          refine e_aload_n dX11_shift_37 rfl 0 rfl ?_
          refine e_getR dX11_shift_38 lkX11_81 tt_127 rfl ?_
          refine e_iload_n dX11_shift_41 rfl 1 rfl ?_
          refine e_iald dX11_shift_42 tt_151 (vp_in_nI (by omega) (by decide)) ?_
          refine e_aload_n dX11_shift_43 rfl 0 rfl ?_
          refine e_getR dX11_shift_44 lkX11_81 tt_127 rfl ?_
          refine e_iload_n dX11_shift_47 rfl 3 rfl ?_
          refine e_iald dX11_shift_48 tt_151 (vp_in_nI (by omega) (by decide)) ?_
          refine e_icmp_eq (t := 55) dX11_shift_49 (by decide) (fun h49 => ?_) (fun h49 => ?_)
          · skip
            rw [i_cl (show k < 2 ^ 31 by omega), g1, i_cl (show e < 2 ^ 31 by omega), f1] at h49
            refine e_iload dX11_shift_55 5 rfl ?_
            refine e_if_lt (t := 104) dX11_shift_57 (by decide) (fun h57 => ?_) (fun h57 => ?_)
            · skip
              skip
              refine e_bipush (v := (-13)) dX11_shift_104 rfl ?_
              refine e_reti dX11_shift_106 ev_nwi (Nat.le_refl _) (Nat.le_refl _) ?_
              have hr : nshift t (nI k) i (nI e) j n = (-13, t) := by
                unfold nshift
                rw [cif_t ⟨hk5, he5⟩, i_cl (show k < 2 ^ 31 by omega), i_cl (show e < 2 ^ 31 by omega), cif_f hns, cif_t h49, cif_f (fun z => nlt_0 h57 z.1.1)]
              rw [hr]
              exact ⟨rfl, hC, rfl, fun _ _ => rfl⟩
            · skip
              refine e_iload_n dX11_shift_60 rfl 2 rfl ?_
              refine e_if_lt (t := 104) dX11_shift_61 (by decide) (fun h61 => ?_) (fun h61 => ?_)
              · skip
                skip
                refine e_bipush (v := (-13)) dX11_shift_104 rfl ?_
                refine e_reti dX11_shift_106 ev_nwi (Nat.le_refl _) (Nat.le_refl _) ?_
                have hr : nshift t (nI k) i (nI e) j n = (-13, t) := by
                  unfold nshift
                  rw [cif_t ⟨hk5, he5⟩, i_cl (show k < 2 ^ 31 by omega), i_cl (show e < 2 ^ 31 by omega), cif_f hns, cif_t h49, cif_f (fun z => nlt_0 h61 z.1.2.1)]
                rw [hr]
                exact ⟨rfl, hC, rfl, fun _ _ => rfl⟩
              · skip
                refine e_iload dX11_shift_64 4 rfl ?_
                refine e_if_lt (t := 104) dX11_shift_66 (by decide) (fun h66 => ?_) (fun h66 => ?_)
                · skip
                  skip
                  refine e_bipush (v := (-13)) dX11_shift_104 rfl ?_
                  refine e_reti dX11_shift_106 ev_nwi (Nat.le_refl _) (Nat.le_refl _) ?_
                  have hr : nshift t (nI k) i (nI e) j n = (-13, t) := by
                    unfold nshift
                    rw [cif_t ⟨hk5, he5⟩, i_cl (show k < 2 ^ 31 by omega), i_cl (show e < 2 ^ 31 by omega), cif_f hns, cif_t h49, cif_f (fun z => nlt_0 h66 z.2.2.1)]
                  rw [hr]
                  exact ⟨rfl, hC, rfl, fun _ _ => rfl⟩
                · skip
                  obtain ⟨a, ha, hia⟩ := i_any (fa_of_nlt h61)
                  obtain ⟨b, hb, hib⟩ := i_any (fa_of_nlt h57)
                  obtain ⟨d, hd, hid⟩ := i_any (fa_of_nlt h66)
                  subst hia hib hid
                  have hn : 0 ≤ nI b := i_nn hb
                  have hi0 : 0 ≤ nI a := i_nn ha
                  have hj0 : 0 ≤ nI d := i_nn hd
                  refine e_iload_n dX11_shift_69 rfl 2 rfl ?_
                  refine e_i2l dX11_shift_70 ?_
                  refine e_iload dX11_shift_71 5 rfl ?_
                  refine e_i2l dX11_shift_73 ?_
                  refine e_ladd dX11_shift_74 ?_
                  refine e_aload_n dX11_shift_75 rfl 0 rfl ?_
                  refine e_getR dX11_shift_76 lkX11_84 tt_127 rfl ?_
                  refine e_iload_n dX11_shift_79 rfl 1 rfl ?_
                  refine e_iald dX11_shift_80 tt_152 (vp_in_nI (by omega) (by decide)) ?_
                  refine e_i2l dX11_shift_81 ?_
                  refine e_lcmp dX11_shift_82 ?_
                  rw [nI_l ha, nI_l hb, lN_add, i_cl (show k < 2 ^ 31 by omega), g2, nI_l (show t.2.1 k < 2 ^ 31 by omega), lcmpN (by omega) (by omega)]
                  refine e_if_gt (t := 104) dX11_shift_83 (by decide) (fun h83 => ?_) (fun h83 => ?_)
                  · skip
                    skip
                    refine e_bipush (v := (-13)) dX11_shift_104 rfl ?_
                    refine e_reti dX11_shift_106 ev_nwi (Nat.le_refl _) (Nat.le_refl _) ?_
                    have hr : nshift t (nI k) (nI a) (nI e) (nI d) (nI b) = (-13, t) := by
                      unfold nshift
                      rw [cif_t ⟨hk5, he5⟩, i_cl (show k < 2 ^ 31 by omega), i_cl (show e < 2 ^ 31 by omega), cif_f hns, cif_t h49, cif_f (fun z => by
                        have z3 := z.1.2.2
                        rw [i_toInt ha, i_toInt hb] at z3
                        rw [if_neg (by omega)] at h83
                        split at h83 <;> exact absurd h83 (by decide))]
                    rw [hr]
                    exact ⟨rfl, hC, rfl, fun _ _ => rfl⟩
                  · skip
                    have hab : a + b ≤ t.2.1 k := by
                      by_cases q : t.2.1 k < a + b
                      · rw [if_pos q] at h83; exact absurd (by decide) h83
                      · omega
                    have hr1 : Run (nI a) (nI b) (t.2.1 k) := ⟨hn, hi0, by rw [i_toInt ha, i_toInt hb]; omega⟩
                    refine e_iload dX11_shift_86 4 rfl ?_
                    refine e_i2l dX11_shift_88 ?_
                    refine e_iload dX11_shift_89 5 rfl ?_
                    refine e_i2l dX11_shift_91 ?_
                    refine e_ladd dX11_shift_92 ?_
                    refine e_aload_n dX11_shift_93 rfl 0 rfl ?_
                    refine e_getR dX11_shift_94 lkX11_84 tt_127 rfl ?_
                    refine e_iload_n dX11_shift_97 rfl 3 rfl ?_
                    refine e_iald dX11_shift_98 tt_152 (vp_in_nI (by omega) (by decide)) ?_
                    refine e_i2l dX11_shift_99 ?_
                    refine e_lcmp dX11_shift_100 ?_
                    rw [nI_l hd, nI_l hb, lN_add, i_cl (show e < 2 ^ 31 by omega), f2, nI_l (show t.2.1 e < 2 ^ 31 by omega), lcmpN (by omega) (by omega)]
                    refine e_if_le (t := 107) dX11_shift_101 (by decide) (fun h101 => ?_) (fun h101 => ?_)
                    · skip
                      have hdb : d + b ≤ t.2.1 e := by
                        by_cases q : t.2.1 e < d + b
                        · rw [if_pos q] at h101; exact absurd h101 (by decide)
                        · omega
                      have hr2 : Run (nI d) (nI b) (t.2.1 e) := ⟨hn, hj0, by rw [i_toInt hd, i_toInt hb]; omega⟩
                      refine e_iload_n dX11_shift_107 rfl 1 rfl ?_
                      refine e_iload_n dX11_shift_108 rfl 3 rfl ?_
                      refine e_icmp_ne (t := 167) dX11_shift_109 (by decide) (fun h109 => ?_) (fun h109 => ?_)
                      · skip
                        have hke : k ≠ e := fun q => h109 (by rw [q])
                        refine e_iconst (v := 0) dX11_shift_167 rfl ?_
                        refine e_istore [(0, .ref 127), (1, .int (nI k)), (2, .int (nI a)), (3, .int (nI e)), (4, .int (nI d)), (5, .int (nI b)), (6, .int (nI 0))] dX11_shift_168 (by decide) rfl ?_
                        have hr : nshift t (nI k) (nI a) (nI e) (nI d) (nI b) = (nI b, ntc t k a e d b) := by
                          unfold nshift
                          rw [cif_t ⟨hk5, he5⟩, i_cl (show k < 2 ^ 31 by omega), i_cl (show e < 2 ^ 31 by omega), cif_f hns, cif_t h49, cif_t ⟨hr1, hr2⟩, i_cl (show a < 2 ^ 31 by omega), i_cl (show d < 2 ^ 31 by omega), i_cl (show b < 2 ^ 31 by omega)]
                        exact fwd k a e d b (by omega) (by omega) (by omega) (by omega) hr (Or.inl hke) b 0 μ (by omega) (fun _ _ => rfl) (fun q => by rw [if_neg (by omega)])
                      · skip
                        have hke : k = e := (i_eq (by omega) (by omega)).mp h109
                        refine e_iload_n dX11_shift_112 rfl 2 rfl ?_
                        refine e_iload dX11_shift_113 4 rfl ?_
                        refine e_icmp_ge (t := 167) dX11_shift_115 (by decide) (fun h115 => ?_) (fun h115 => ?_)
                        · skip
                          have had : d ≤ a := (i_le (by omega) (by omega)).mp h115
                          refine e_iconst (v := 0) dX11_shift_167 rfl ?_
                          refine e_istore [(0, .ref 127), (1, .int (nI k)), (2, .int (nI a)), (3, .int (nI e)), (4, .int (nI d)), (5, .int (nI b)), (6, .int (nI 0))] dX11_shift_168 (by decide) rfl ?_
                          have hr : nshift t (nI k) (nI a) (nI e) (nI d) (nI b) = (nI b, ntc t k a e d b) := by
                            unfold nshift
                            rw [cif_t ⟨hk5, he5⟩, i_cl (show k < 2 ^ 31 by omega), i_cl (show e < 2 ^ 31 by omega), cif_f hns, cif_t h49, cif_t ⟨hr1, hr2⟩, i_cl (show a < 2 ^ 31 by omega), i_cl (show d < 2 ^ 31 by omega), i_cl (show b < 2 ^ 31 by omega)]
                          exact fwd k a e d b (by omega) (by omega) (by omega) (by omega) hr (Or.inr had) b 0 μ (by omega) (fun _ _ => rfl) (fun q => by rw [if_neg (by omega)])
                        · skip
                          have had : a < d := Nat.not_le.mp (fun q => h115 ((i_le (by omega) (by omega)).mpr q))
                          refine e_iload dX11_shift_118 5 rfl ?_
                          refine e_iconst (v := 1) dX11_shift_120 rfl ?_
                          refine e_isub dX11_shift_121 ?_
                          refine e_istore [(0, .ref 127), (1, .int (nI k)), (2, .int (nI a)), (3, .int (nI e)), (4, .int (nI d)), (5, .int (nI b)), (6, .int (nI b - 1))] dX11_shift_122 (by decide) rfl ?_
                          have hr : nshift t (nI k) (nI a) (nI e) (nI d) (nI b) = (nI b, ntc t k a e d b) := by
                            unfold nshift
                            rw [cif_t ⟨hk5, he5⟩, i_cl (show k < 2 ^ 31 by omega), i_cl (show e < 2 ^ 31 by omega), cif_f hns, cif_t h49, cif_t ⟨hr1, hr2⟩, i_cl (show a < 2 ^ 31 by omega), i_cl (show d < 2 ^ 31 by omega), i_cl (show b < 2 ^ 31 by omega)]
                          exact bwd k a e d b (by omega) (by omega) (by omega) (by omega) hr hke had b μ (by omega) (fun _ _ => rfl) (fun q => by rw [if_neg (by omega)])
                    · skip
                      skip
                      refine e_bipush (v := (-13)) dX11_shift_104 rfl ?_
                      refine e_reti dX11_shift_106 ev_nwi (Nat.le_refl _) (Nat.le_refl _) ?_
                      have hr : nshift t (nI k) (nI a) (nI e) (nI d) (nI b) = (-13, t) := by
                        unfold nshift
                        rw [cif_t ⟨hk5, he5⟩, i_cl (show k < 2 ^ 31 by omega), i_cl (show e < 2 ^ 31 by omega), cif_f hns, cif_t h49, cif_f (fun z => by
                          have z3 := z.2.2.2
                          rw [i_toInt hd, i_toInt hb] at z3
                          rw [if_neg (by omega)] at h101
                          split at h101 <;> exact absurd (by decide) h101)]
                      rw [hr]
                      exact ⟨rfl, hC, rfl, fun _ _ => rfl⟩
          · skip
            rw [i_cl (show k < 2 ^ 31 by omega), g1, i_cl (show e < 2 ^ 31 by omega), f1] at h49
            refine e_bipush (v := (-12)) dX11_shift_52 rfl ?_
            refine e_reti dX11_shift_54 ev_nwi (Nat.le_refl _) (Nat.le_refl _) ?_
            have hr : nshift t (nI k) i (nI e) j n = (-12, t) := by
              unfold nshift
              rw [cif_t ⟨hk5, he5⟩, i_cl (show k < 2 ^ 31 by omega), i_cl (show e < 2 ^ 31 by omega), cif_f hns, cif_f h49]
            rw [hr]
            exact ⟨rfl, hC, rfl, fun _ _ => rfl⟩
        · skip
          rw [i_cl (show e < 2 ^ 31 by omega), f1] at h31
          refine e_bipush (v := (-11)) dX11_shift_34 rfl ?_
          refine e_reti dX11_shift_36 ev_nwi (Nat.le_refl _) (Nat.le_refl _) ?_
          have hr : nshift t (nI k) i (nI e) j n = (-11, t) := by
            unfold nshift
            rw [cif_t ⟨hk5, he5⟩, i_cl (show k < 2 ^ 31 by omega), i_cl (show e < 2 ^ 31 by omega), cif_t (Or.inr ((t_m1 hV (by omega)).mpr (Int32.not_le.mp h31)))]
          rw [hr]
          exact ⟨rfl, hC, rfl, fun _ _ => rfl⟩
    · skip
      rw [q8] at h11
      have h11 := bI_eq0.mp h11
      refine e_iconst (v := (-1)) dX11_shift_14 rfl ?_
      refine e_reti dX11_shift_15 ev_nwi (Nat.le_refl _) (Nat.le_refl _) ?_
      have hr : nshift t x i y j n = (-1, t) := by
        unfold nshift
        rw [cif_f (fun z => h11 z.2)]
      rw [hr]
      exact ⟨rfl, hC, rfl, fun _ _ => rfl⟩
