/-! THE LAW: its loop and its start -/
theorem lw_more {i L : Nat} (hL : L ≤ 3072) (hi : i ≤ 4000) (h : ¬ nI L - 6 < nI i) : i + 6 ≤ L := by
  by_cases h6 : 6 ≤ L
  · rw [show (6 : Int32) = nI 6 from rfl, i_sub h6, i_lt (by omega) (by omega)] at h
    omega
  · exfalso
    apply h
    have h0 : 0 ≤ nI i := i_nn (by omega)
    refine Int32.lt_of_lt_of_le ?_ h0
    have : L = 0 ∨ L = 1 ∨ L = 2 ∨ L = 3 ∨ L = 4 ∨ L = 5 := by omega
    rcases this with rfl | rfl | rfl | rfl | rfl | rfl <;> decide
set_option maxRecDepth 100000 in
set_option maxHeartbeats 1000000 in
theorem law_loop {xs : Nat → Int32} {L k n n0 mc ms : Nat} {nm : String} (hL : L ≤ 3072) (hk : k ≤ mc) (hn : n ≤ ms) : ∀ (m i : Nat) (σ : ex_S) (μ : ex_L), L ≤ i + 6 * m → i ≤ 4000 → LI σ μ → Ev RL cL_law 4 100 mc ms nm (some .boolean) (LX xs L) n0 (fun v _ _ _ => v = some (.int 1)) k n 18 (LV i) [] TT σ μ := by
  intro m
  induction m with
  | zero =>
    intro i σ μ hm hi4 W
    refine e_iload_n dL_law_18 rfl 3 rfl ?_
    refine e_aload_n dL_law_19 rfl 0 rfl ?_
    refine e_xlen (N := L) (f := xs) dL_law_20 lx_in ?_
    refine e_bipush (v := 6) dL_law_21 rfl ?_
    refine e_isub dL_law_23 ?_
    refine e_icmp_gt (t := 1172) dL_law_24 (by decide) (fun _ => ?_) (fun h24 => ?_)
    · refine e_iconst (v := 1) dL_law_1172 rfl ?_
      exact e_ret dL_law_1173 ev_nw1 hk hn rfl
    · have hi := lw_more hL hi4 h24
      exact absurd hi (by omega)
  | succ m ih =>
    intro i σ μ hm hi4 W
    refine e_iload_n dL_law_18 rfl 3 rfl ?_
    refine e_aload_n dL_law_19 rfl 0 rfl ?_
    refine e_xlen (N := L) (f := xs) dL_law_20 lx_in ?_
    refine e_bipush (v := 6) dL_law_21 rfl ?_
    refine e_isub dL_law_23 ?_
    refine e_icmp_gt (t := 1172) dL_law_24 (by decide) (fun _ => ?_) (fun h24 => ?_)
    · refine e_iconst (v := 1) dL_law_1172 rfl ?_
      exact e_ret dL_law_1173 ev_nw1 hk hn rfl
    · have hi := lw_more hL hi4 h24
      have K : ∀ (σ' : ex_S) (μ' : ex_L), LI σ' μ' → Ev RL cL_law 4 100 mc ms nm (some .boolean) (LX xs L) n0 (fun v _ _ _ => v = some (.int 1)) k n 1166 (LV i) [] TT σ' μ' := by
        intro σ' μ' h
        refine e_iinc (nI (i + 6)) (LV (i + 6)) dL_law_1166 3 rfl (show nI i + Int32.ofInt 6 = nI (i + 6) from i_add i 6) (by decide) rfl ?_
        refine e_goto (t := 18) dL_law_1169 (by decide) ?_
        exact ih (i + 6) σ' μ' (by omega) (by omega) h
      refine e_aload_n dL_law_27 rfl 0 rfl ?_
      refine e_iload_n dL_law_28 rfl 3 rfl ?_
      refine e_xald (N := L) (f := xs) dL_law_29 lx_in (lw_in0 hi hL) ?_
      refine e_bipush (v := 31) dL_law_30 rfl ?_
      refine e_iand dL_law_32 ?_
      obtain ⟨c, hc, ec⟩ := pk_andE (xs (nI i).toNatClampNeg) (m := 31) 5 (by decide)
      rw [ec]
      match c, hc with
      | 0, _ => exact e_tswIn (t := 176) dL_law_33 (by decide) (by decide) rfl (by decide) (lc_field hi hL hk hn W K)
      | 1, _ => exact e_tswIn (t := 199) dL_law_33 (by decide) (by decide) rfl (by decide) (lc_calc hi hL hk hn W K)
      | 2, _ => exact e_tswIn (t := 242) dL_law_33 (by decide) (by decide) rfl (by decide) (lc_data hi hL hk hn W K)
      | 3, _ => exact e_tswIn (t := 275) dL_law_33 (by decide) (by decide) rfl (by decide) (lc_feed hi hL hk hn W K)
      | 4, _ => exact e_tswIn (t := 298) dL_law_33 (by decide) (by decide) rfl (by decide) (lc_parity hi hL hk hn W K)
      | 5, _ => exact e_tswIn (t := 331) dL_law_33 (by decide) (by decide) rfl (by decide) (lc_row hi hL hk hn W K)
      | 6, _ => exact e_tswIn (t := 374) dL_law_33 (by decide) (by decide) rfl (by decide) (lc_of hi hL hk hn W K)
      | 7, _ => exact e_tswIn (t := 407) dL_law_33 (by decide) (by decide) rfl (by decide) (lc_write hi hL hk hn W K)
      | 8, _ => exact e_tswIn (t := 440) dL_law_33 (by decide) (by decide) rfl (by decide) (lc_lose hi hL hk hn W K)
      | 9, _ => exact e_tswIn (t := 463) dL_law_33 (by decide) (by decide) rfl (by decide) (lc_repair hi hL hk hn W K)
      | 10, _ => exact e_tswIn (t := 486) dL_law_33 (by decide) (by decide) rfl (by decide) (lc_told hi hL hk hn W K)
      | 11, _ => exact e_tswIn (t := 509) dL_law_33 (by decide) (by decide) rfl (by decide) (lc_rank hi hL hk hn W K)
      | 12, _ => exact e_tswIn (t := 532) dL_law_33 (by decide) (by decide) rfl (by decide) (lc_safe hi hL hk hn W K)
      | 13, _ => exact e_tswIn (t := 555) dL_law_33 (by decide) (by decide) rfl (by decide) (lc_best hi hL hk hn W K)
      | 14, _ => exact e_tswIn (t := 598) dL_law_33 (by decide) (by decide) rfl (by decide) (lc_see hi hL hk hn W K)
      | 15, _ => exact e_tswIn (t := 631) dL_law_33 (by decide) (by decide) rfl (by decide) (lc_ways hi hL hk hn W K)
      | 16, _ => exact e_tswIn (t := 655) dL_law_33 (by decide) (by decide) rfl (by decide) (lc_can hi hL hk hn W K)
      | 17, _ => exact e_tswIn (t := 678) dL_law_33 (by decide) (by decide) rfl (by decide) (lc_odds hi hL hk hn W K)
      | 18, _ => exact e_tswIn (t := 712) dL_law_33 (by decide) (by decide) rfl (by decide) (lc_mean hi hL hk hn W K)
      | 19, _ => exact e_tswIn (t := 736) dL_law_33 (by decide) (by decide) rfl (by decide) (lc_plan hi hL hk hn W K)
      | 20, _ => exact e_tswIn (t := 769) dL_law_33 (by decide) (by decide) rfl (by decide) (lc_ends hi hL hk hn W K)
      | 21, _ => exact e_tswIn (t := 792) dL_law_33 (by decide) (by decide) rfl (by decide) (lc_book hi hL hk hn W K)
      | 22, _ => exact e_tswIn (t := 825) dL_law_33 (by decide) (by decide) rfl (by decide) (lc_looked hi hL hk hn W K)
      | 23, _ => exact e_tswIn (t := 838) dL_law_33 (by decide) (by decide) rfl (by decide) (lc_judge hi hL hk hn W K)
      | 24, _ => exact e_tswIn (t := 871) dL_law_33 (by decide) (by decide) rfl (by decide) (lc_image hi hL hk hn W K)
      | 25, _ => exact e_tswIn (t := 884) dL_law_33 (by decide) (by decide) rfl (by decide) (lc_undo hi hL hk hn W K)
      | 26, _ => exact e_tswIn (t := 897) dL_law_33 (by decide) (by decide) rfl (by decide) (lc_taken hi hL hk hn W K)
      | 27, _ => exact e_tswIn (t := 930) dL_law_33 (by decide) (by decide) rfl (by decide) (lc_count hi hL hk hn W K)
      | 28, _ => exact e_tswIn (t := 953) dL_law_33 (by decide) (by decide) rfl (by decide) (lc_tape hi hL hk hn W K)
      | 29, _ => exact e_tswIn (t := 996) dL_law_33 (by decide) (by decide) rfl (by decide) (lc_item hi hL hk hn W K)
      | 30, _ => exact e_tswIn (t := 1069) dL_law_33 (by decide) (by decide) rfl (by decide) (lc_read hi hL hk hn W K)
      | 31, _ => exact e_tswIn (t := 1103) dL_law_33 (by decide) (by decide) rfl (by decide) (lc_shift hi hL hk hn W K)
      | c + 32, hc => exact absurd hc (by omega)
theorem li0 {σ1 σ : ex_S} {μ0 : ex_L} (a1 : FC σ1 19) (a2 : σ1 0 = fun _ => 0) (a3 : ∀ i, 3 ≤ i → i < 127 → i ≠ 118 → σ1 i = fun _ => 0) (a4 : ∀ k, k < 6 → σ1 118 k = -1) (b1 : FR σ 19) (b2 : ∀ k, 2 ≤ k → σ 127 k = 0) (b3 : ∀ i, i < 127 → σ i = σ1 i) (b4 : ∀ i, 131 ≤ i → i < 154 → i ≠ 151 → σ i = fun _ => 0) (b5 : ∀ k, k < 6 → σ 151 k = -1) : LI σ (lrow (mn_s μ0 120 6 0) 153 (fun _ => 0)) := by
  have z : ∀ i, 3 ≤ i → i < 127 → i ≠ 118 → σ i = fun _ => 0 := fun i a b c => (b3 i b).trans (a3 i a b c)
  have zi : ∀ i k, 3 ≤ i → i < 127 → i ≠ 118 → σ i k = 0 := fun i k a b c => congrFun (z i a b c) k
  have hV : VS (fun _ _ => 0) := ⟨by decide, by decide, by decide, by decide, by decide, by decide, fun j hj => absurd hj (Nat.not_lt_zero j), fun j hj => absurd hj (Nat.not_lt_zero j)⟩
  have hU : PSV (fun _ _ => 0) := ⟨by decide, by decide, by decide, fun j hj => absurd hj (Nat.not_lt_zero j), fun j hj => absurd hj (Nat.not_lt_zero j), fun j hj => absurd hj (Nat.not_lt_zero j)⟩
  refine LI.mk (p := 19) (S := fun _ _ => 0) (z := 0) (X := fun _ => 0) (t := (fun _ => -1, fun _ => 0, fun _ _ => 0)) ⟨?_, ?_, ?_, ?_, ?_, ?_, ?_, ?_, ?_, ?_⟩ ⟨?_, ?_, ?_, ?_, ?_, ?_, ?_⟩ ?_ (Or.inl rfl) hV hU ?_ (by decide) (fun i hi => absurd hi (Nat.not_lt_zero i))
  · exact a1.to (b3 1 (by decide)) (b3 2 (by decide))
  · exact ⟨zi 33 0 (by decide) (by decide) (by decide), zi 33 1 (by decide) (by decide) (by decide), zi 33 2 (by decide) (by decide) (by decide), zi 33 3 (by decide) (by decide) (by decide), fun j hj => absurd hj (Nat.not_lt_zero j), fun j hj => absurd hj (Nat.not_lt_zero j)⟩
  · exact ⟨zi 52 2 (by decide) (by decide) (by decide), fun j hj => absurd hj (Nat.not_lt_zero j)⟩
  · exact ⟨zi 55 2 (by decide) (by decide) (by decide), fun j hj => absurd hj (Nat.not_lt_zero j)⟩
  · exact ⟨zi 58 2 (by decide) (by decide) (by decide), fun j hj => absurd hj (Nat.not_lt_zero j)⟩
  · intro t ht
    have a := nrk_le (p := 19) (fun _ _ => 0) t
    have e : nrk 19 (fun _ _ => 0) t = 0 := Nat.le_zero.mp a
    rw [e]
    exact zi 6 t (by decide) (by decide) (by decide)
  · exact ⟨fun q _ => zi 29 q (by decide) (by decide) (by decide), zi 28 1 (by decide) (by decide) (by decide)⟩
  · exact zi 31 0 (by decide) (by decide) (by decide)
  · exact ⟨zi 3 1 (by decide) (by decide) (by decide), fun j hj => absurd hj (Nat.not_lt_zero j)⟩
  · intro k hk
    refine ⟨(congrFun (b3 118 (by decide)) k).trans (a4 k hk), zi 119 k (by decide) (by decide) (by decide), fun i _ => ?_⟩
    rw [lrow_obj (by omega)]
    show (if 120 ≤ 121 + k ∧ 121 + k ≤ 120 + 6 then (fun _ => (0 : Int64)) else μ0 (121 + k)) i = 0
    rw [if_pos (by omega)]
  · exact b1
  · exact ⟨b2 5 (by decide), b2 6 (by decide), b2 7 (by decide), fun j hj => absurd hj (Nat.not_lt_zero j), fun j hj => absurd hj (Nat.not_lt_zero j)⟩
  · exact ⟨b2 22 (by decide), fun j hj => absurd hj (Nat.not_lt_zero j)⟩
  · exact ⟨b2 25 (by decide), fun j hj => absurd hj (Nat.not_lt_zero j)⟩
  · exact ⟨b2 28 (by decide), fun j hj => absurd hj (Nat.not_lt_zero j)⟩
  · exact ⟨b2 17 (by decide), fun j hj => absurd hj (Nat.not_lt_zero j)⟩
  · intro k hk
    refine ⟨b5 k hk, congrFun (b4 152 (by decide) (by decide) (by decide)) k, fun i _ => ?_⟩
    rw [lrow_same]
  · exact Or.inl ⟨(congrFun (b3 0 (by decide)) 6).trans (congrFun a2 6), b2 31 (by decide)⟩
  · exact fun k _ => ⟨Nat.zero_le _, Or.inl ⟨rfl, rfl⟩⟩
set_option maxRecDepth 100000 in
set_option maxHeartbeats 1000000 in
theorem law_start {xs : Nat → Int32} {L : Nat} {nm : String} (hL : L ≤ 3072) (σ : ex_S) (μ : ex_L) : Ev RL cL_law 4 100 600000 7302250 nm (some .boolean) (LX xs L) 0 (fun v _ _ _ => v = some (.int 1)) 0 0 0 [(0, .ref 1001)] [] [] σ μ := by
  refine e_new (ci := 10) (i := 0) (sl := [some none, some none, some none, some none, some none, some none, none, some none, some none, some none, some none]) (T' := [c0 [some none, some none, some none, some none, some none, some none, none, some none, some none, some none, some none]]) dL_law_0 rfl iw_10 tyX10_ok klL_7 ki_X10 kz_X10 (by decide) df_10 rfl (by decide) rfl (Nat.le_of_ble_eq_true rfl) (Nat.le_of_ble_eq_true rfl) (g_c (Or.inr (by decide)) g_n) g_n0 ?_
  rw [show srow σ 0 (fun _ => 0) = zr σ 0 1 from zr_1]
  refine e_dup dL_law_3 rfl ?_
  refine e_callI dL_law_4 cvL_9 rfl k_RG (Nat.le_of_ble_eq_true rfl) (Nat.le_of_ble_eq_true rfl) (Nat.le_of_ble_eq_true rfl) rfl (Nat.le_of_ble_eq_true rfl) (g_c (Or.inr (by decide)) g_n) (g_c0 (Or.inl (Nat.le_of_ble_eq_true rfl)) g_n0) ?_
  intro T9 σ1 μ1 q
  obtain ⟨rfl, ⟨a1, a2, a3, a4⟩, rfl⟩ := q
  refine e_astore_n [(0, .ref 1001), (1, .ref 0)] dL_law_7 rfl (by decide) rfl ?_
  refine e_new (ci := 11) (i := 127) (sl := [none, none, some none, some none, some none, none, none, none, some none, some none, some none, some none, some none, some none, some none, some none, some none, none, some none, none, none, some none, none, some none, some none, none, some none, some none, none, some none, some none, none, some none, some none, some none, none, none, none, some none, some none, some none]) (T' := TT.take 127 ++ [.inl (11, [none, none, some none, some none, some none, none, none, none, some none, some none, some none, some none, some none, some none, some none, some none, some none, none, some none, none, none, some none, none, some none, some none, none, some none, some none, none, some none, some none, none, some none, some none, some none, none, none, none, some none, some none, some none])]) dL_law_8 rfl iw_11 tyX11_ok klL_10 ki_X11 kz_X11 (by decide) df_11 rfl (by decide) rfl (Nat.le_of_ble_eq_true rfl) (Nat.le_of_ble_eq_true rfl) (g_c (Or.inr (by decide)) (g_c (Or.inl (Nat.le_of_ble_eq_true rfl)) g_n)) g_n0 ?_
  rw [show srow σ1 127 (fun _ => 0) = zr σ1 127 1 from zr_1]
  refine e_dup dL_law_11 rfl ?_
  refine e_callI dL_law_12 cvL_12 rfl (k_Model (T0 := TT.take 127) rfl rfl rfl) (Nat.le_of_ble_eq_true rfl) (Nat.le_of_ble_eq_true rfl) (Nat.le_of_ble_eq_true rfl) rfl (Nat.le_of_ble_eq_true rfl) (g_c (Or.inr (by decide)) (g_c (Or.inl (Nat.le_of_ble_eq_true rfl)) g_n)) (g_c0 (Or.inl (Nat.le_of_ble_eq_true rfl)) g_n0) ?_
  intro T9 σ2 μ2 q
  obtain ⟨rfl, ⟨b1, b2, b3, b4, b5⟩, rfl⟩ := q
  refine e_astore_n [(0, .ref 1001), (1, .ref 0), (2, .ref 127)] dL_law_15 rfl (by decide) rfl ?_
  refine e_iconst (v := 0) dL_law_16 rfl ?_
  refine e_istore_n (LV 0) dL_law_17 rfl (by decide) rfl ?_
  exact law_loop hL (Nat.le_of_ble_eq_true rfl) (Nat.le_of_ble_eq_true rfl) 512 0 _ _ (by omega) (by decide) (li0 a1 a2 a3 a4 b1 b2 b3 b4 b5)
