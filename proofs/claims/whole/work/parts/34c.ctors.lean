/-! CONSTRUCTORS of the small classes -/
/-- the rows from b on are nought -/
def zr (σ : ex_S) (b n : Nat) : ex_S := fun j => if b ≤ j ∧ j < b + n then fun _ => 0 else σ j
theorem zr_i {σ : ex_S} {b n k : Nat} (h : k < n) : zr σ b n (b + k) = fun _ => 0 := if_pos ⟨Nat.le_add_right _ _, Nat.add_lt_add_left h _⟩
theorem zr_o {σ : ex_S} {b n j : Nat} (h : j < b ∨ b + n ≤ j) : zr σ b n j = σ j := if_neg (by omega)
theorem zr_in {σ : ex_S} {b n j : Nat} (h : b ≤ j) (h2 : j < b + n) : zr σ b n j = fun _ => 0 := if_pos ⟨h, h2⟩
theorem zr_0 {σ : ex_S} {b : Nat} : zr σ b 0 = σ := funext fun j => if_neg (by omega)
theorem zr_1 {σ : ex_S} {b : Nat} : srow σ b (fun _ => 0) = zr σ b 1 := funext fun j => by
  unfold srow zr
  by_cases h : j = b
  · rw [if_pos h, if_pos (by omega)]
  · rw [if_neg h, if_neg (by omega)]
theorem zr_z {σ : ex_S} {b n m : Nat} : zr (zr σ b n) (b + n) m = zr σ b (n + m) := funext fun j => by
  show (if b + n ≤ j ∧ j < b + n + m then (fun _ => (0 : Int32)) else if b ≤ j ∧ j < b + n then fun _ => 0 else σ j) = if b ≤ j ∧ j < b + (n + m) then fun _ => 0 else σ j
  by_cases h : b + n ≤ j ∧ j < b + n + m
  · rw [if_pos h, if_pos (by omega)]
  · rw [if_neg h]
    by_cases h2 : b ≤ j ∧ j < b + n
    · rw [if_pos h2, if_pos (by omega)]
    · rw [if_neg h2, if_neg (by omega)]
theorem zr_s {σ : ex_S} {b n : Nat} : srow (zr σ b n) (b + n) (fun _ => 0) = zr σ b (n + 1) := zr_1.trans zr_z
theorem zr_m {σ : ex_S} {b n N : Nat} : mn_s (zr σ b n) (b + n) N 0 = zr σ b (n + (N + 1)) := by
  rw [← zr_z]
  funext j
  show (if b + n ≤ j ∧ j ≤ b + n + N then (fun _ => (0 : Int32)) else zr σ b n j) = if b + n ≤ j ∧ j < b + n + (N + 1) then (fun _ => 0) else zr σ b n j
  by_cases h : b + n ≤ j ∧ j ≤ b + n + N
  · rw [if_pos h, if_pos (by omega)]
  · rw [if_neg h, if_neg (by omega)]
theorem sup_z {σ : ex_S} {i f : Nat} (h : σ i = fun _ => 0) : sup σ i f 0 = σ := by
  unfold sup srow
  funext j
  by_cases e : j = i
  · rw [if_pos e, e, h]
    funext q
    unfold upd
    split <;> rfl
  · rw [if_neg e]
theorem g_at {T0 L : List ex_T} {b k : Nat} (hb : T0.length = b) : (T0 ++ L)[b + k]? = L[k]? := by
  rw [List.getElem?_append_right (by omega)]
  congr 1
  omega
theorem g_len {T0 L : List ex_T} {b : Nat} (hb : T0.length = b) : (T0 ++ L).length = b + L.length := by rw [List.length_append, hb]
theorem g_set {T0 L : List ex_T} {b k : Nat} {x : ex_T} (hb : T0.length = b) : (T0 ++ L).set (b + k) x = T0 ++ L.set k x := by
  rw [List.set_append_right _ _ (by omega)]
  congr 2
  omega
theorem g_lt {T0 L : List ex_T} {b k : Nat} (hb : T0.length = b) (h : k < L.length) : b + k < (T0 ++ L).length := by rw [List.length_append]; omega
theorem g_ltp {T0 L : List ex_T} {b n : Nat} (hb : T0.length = b) (h : n < b) : n < (T0 ++ L).length := by rw [List.length_append]; omega
theorem g_ok {T0 L : List ex_T} {b k : Nat} (hb : T0.length = b) (h : k < L.length) : ev_okv (T0 ++ L).length (.ref (b + k)) := Or.inl (g_lt hb h)
theorem g_okp {T0 L : List ex_T} {b n : Nat} (hb : T0.length = b) (h : n < b) : ev_okv (T0 ++ L).length (.ref n) := Or.inl (g_ltp hb h)
theorem g_n {n : Nat} : ∀ q ∈ ([] : List (Nat × Value)), ev_okv n q.2 := fun _ h => absurd h List.not_mem_nil
theorem g_c {n i : Nat} {v : Value} {l : List (Nat × Value)} (h : ev_okv n v) (h2 : ∀ q ∈ l, ev_okv n q.2) : ∀ q ∈ ((i, v) :: l), ev_okv n q.2 := fun q hq => by
  rcases List.mem_cons.mp hq with e | e
  · rw [e]; exact h
  · exact h2 q e
theorem g_n0 {n : Nat} : ∀ v ∈ ([] : List Value), ev_okv n v := fun _ h => absurd h List.not_mem_nil
theorem g_c0 {n : Nat} {v : Value} {l : List Value} (h : ev_okv n v) (h2 : ∀ q ∈ l, ev_okv n q) : ∀ q ∈ (v :: l), ev_okv n q := fun q hq => by
  rcases List.mem_cons.mp hq with e | e
  · rw [e]; exact h
  · exact h2 q e

theorem df_0 : ∀ j, j < 4 → defaultValue (tyX0 j) = vp_V (([some none, some none, some none, some none] : List (Option (Option Nat))).map ev_dfl) j := by
  intro j hj
  match j, hj with
  | 0, _ => rfl
  | 1, _ => rfl
  | 2, _ => rfl
  | 3, _ => rfl
  | j + 4, h => exact absurd h (by omega)

theorem df_1 : ∀ j, j < 4 → defaultValue (tyX1 j) = vp_V (([some none, none, none, none] : List (Option (Option Nat))).map ev_dfl) j := by
  intro j hj
  match j, hj with
  | 0, _ => rfl
  | 1, _ => rfl
  | 2, _ => rfl
  | 3, _ => rfl
  | j + 4, h => exact absurd h (by omega)

theorem df_2 : ∀ j, j < 2 → defaultValue (tyX2 j) = vp_V (([some none, some none] : List (Option (Option Nat))).map ev_dfl) j := by
  intro j hj
  match j, hj with
  | 0, _ => rfl
  | 1, _ => rfl
  | j + 2, h => exact absurd h (by omega)

theorem df_3 : ∀ j, j < 12 → defaultValue (tyX3 j) = vp_V (([none, none, none, none, some none, some none, some none, some none, some none, some none, some none, some none] : List (Option (Option Nat))).map ev_dfl) j := by
  intro j hj
  match j, hj with
  | 0, _ => rfl
  | 1, _ => rfl
  | 2, _ => rfl
  | 3, _ => rfl
  | 4, _ => rfl
  | 5, _ => rfl
  | 6, _ => rfl
  | 7, _ => rfl
  | 8, _ => rfl
  | 9, _ => rfl
  | 10, _ => rfl
  | 11, _ => rfl
  | j + 12, h => exact absurd h (by omega)

theorem df_4 : ∀ j, j < 3 → defaultValue (tyX4 j) = vp_V (([none, none, some none] : List (Option (Option Nat))).map ev_dfl) j := by
  intro j hj
  match j, hj with
  | 0, _ => rfl
  | 1, _ => rfl
  | 2, _ => rfl
  | j + 3, h => exact absurd h (by omega)

theorem df_5 : ∀ j, j < 3 → defaultValue (tyX5 j) = vp_V (([some none, some none, none] : List (Option (Option Nat))).map ev_dfl) j := by
  intro j hj
  match j, hj with
  | 0, _ => rfl
  | 1, _ => rfl
  | 2, _ => rfl
  | j + 3, h => exact absurd h (by omega)

theorem df_6 : ∀ j, j < 2 → defaultValue (tyX6 j) = vp_V (([some none, some none] : List (Option (Option Nat))).map ev_dfl) j := by
  intro j hj
  match j, hj with
  | 0, _ => rfl
  | 1, _ => rfl
  | j + 2, h => exact absurd h (by omega)

theorem df_7 : ∀ j, j < 3 → defaultValue (tyX7 j) = vp_V (([some none, none, some none] : List (Option (Option Nat))).map ev_dfl) j := by
  intro j hj
  match j, hj with
  | 0, _ => rfl
  | 1, _ => rfl
  | 2, _ => rfl
  | j + 3, h => exact absurd h (by omega)

theorem df_8 : ∀ j, j < 4 → defaultValue (tyX8 j) = vp_V (([some none, some none, some none, some none] : List (Option (Option Nat))).map ev_dfl) j := by
  intro j hj
  match j, hj with
  | 0, _ => rfl
  | 1, _ => rfl
  | 2, _ => rfl
  | 3, _ => rfl
  | j + 4, h => exact absurd h (by omega)

theorem df_9 : ∀ j, j < 3 → defaultValue (tyX9 j) = vp_V (([some none, some none, some none] : List (Option (Option Nat))).map ev_dfl) j := by
  intro j hj
  match j, hj with
  | 0, _ => rfl
  | 1, _ => rfl
  | 2, _ => rfl
  | j + 3, h => exact absurd h (by omega)

theorem df_10 : ∀ j, j < 11 → defaultValue (tyX10 j) = vp_V (([some none, some none, some none, some none, some none, some none, none, some none, some none, some none, some none] : List (Option (Option Nat))).map ev_dfl) j := by
  intro j hj
  match j, hj with
  | 0, _ => rfl
  | 1, _ => rfl
  | 2, _ => rfl
  | 3, _ => rfl
  | 4, _ => rfl
  | 5, _ => rfl
  | 6, _ => rfl
  | 7, _ => rfl
  | 8, _ => rfl
  | 9, _ => rfl
  | 10, _ => rfl
  | j + 11, h => exact absurd h (by omega)

theorem df_11 : ∀ j, j < 41 → defaultValue (tyX11 j) = vp_V (([none, none, some none, some none, some none, none, none, none, some none, some none, some none, some none, some none, some none, some none, some none, some none, none, some none, none, none, some none, none, some none, some none, none, some none, some none, none, some none, some none, none, some none, some none, some none, none, none, none, some none, some none, some none] : List (Option (Option Nat))).map ev_dfl) j := by
  intro j hj
  match j, hj with
  | 0, _ => rfl
  | 1, _ => rfl
  | 2, _ => rfl
  | 3, _ => rfl
  | 4, _ => rfl
  | 5, _ => rfl
  | 6, _ => rfl
  | 7, _ => rfl
  | 8, _ => rfl
  | 9, _ => rfl
  | 10, _ => rfl
  | 11, _ => rfl
  | 12, _ => rfl
  | 13, _ => rfl
  | 14, _ => rfl
  | 15, _ => rfl
  | 16, _ => rfl
  | 17, _ => rfl
  | 18, _ => rfl
  | 19, _ => rfl
  | 20, _ => rfl
  | 21, _ => rfl
  | 22, _ => rfl
  | 23, _ => rfl
  | 24, _ => rfl
  | 25, _ => rfl
  | 26, _ => rfl
  | 27, _ => rfl
  | 28, _ => rfl
  | 29, _ => rfl
  | 30, _ => rfl
  | 31, _ => rfl
  | 32, _ => rfl
  | 33, _ => rfl
  | 34, _ => rfl
  | 35, _ => rfl
  | 36, _ => rfl
  | 37, _ => rfl
  | 38, _ => rfl
  | 39, _ => rfl
  | 40, _ => rfl
  | j + 41, h => exact absurd h (by omega)

set_option maxRecDepth 100000 in
theorem k_FormText {T0 : List ex_T} {b : Nat} (hb : T0.length = b) (hB : b ≤ 900) {T1 T2 : List ex_T} (hT1 : T0 ++ [.inl (1, [some none, none, none, none])] = T1) (hT2 : T0 ++ [.inl (1, [some (some (b + 1)), none, none, none]), .inr (1, 100, [])] = T2) {σ : ex_S} {μ : ex_L} : Cl 2 1 100 yX1_init cX1_init 1 none [.ref b] T1 (zr σ b 1) μ (fun v T' σ' μ' => v = none ∧ T' = T2 ∧ σ' = zr σ b 2 ∧ μ' = μ) := by
  subst hT1 hT2
  refine Cl_of (by decide +kernel) (Nat.le_of_ble_eq_true rfl) ?_
  show Ev RX1 cX1_init 1 2 1 100 "<init>" none ev_ext _ _ 0 0 0 [(0, .ref b)] [] _ _ μ
  refine e_aload_n dX1_init_0 rfl 0 rfl ?_
  refine e_objI dX1_init_1 koX1_3 (Nat.le_of_ble_eq_true rfl) (Nat.le_of_ble_eq_true rfl) ?_
  refine e_aload_n dX1_init_4 rfl 0 rfl ?_
  refine e_bipush (v := 100) dX1_init_5 rfl ?_
  refine e_newAc (i := (b + 1)) (N := 100) (T' := (T0 ++ [.inl (1, [some none, none, none, none]), .inr (1, 100, [])])) dX1_init_7 (by decide) (by decide) (by decide) ((g_len hb).trans rfl) (by omega) ((List.append_assoc _ _ _).trans rfl) (Nat.le_of_ble_eq_true rfl) (Nat.le_of_ble_eq_true rfl) (g_c (g_ok (k := 0) hb (Nat.le_of_ble_eq_true rfl)) g_n) (g_c0 (g_ok (k := 0) hb (Nat.le_of_ble_eq_true rfl)) g_n0) ?_
  rw [show srow (zr σ b 1) (b + 1) (fun _ => 0) = zr σ b 2 from zr_s]
  refine e_putR (T' := (T0 ++ [.inl (1, [some (some (b + 1)), none, none, none]), .inr (1, 100, [])])) dX1_init_9 lkX1_11' ((g_at (k := 0) hb).trans rfl) (Nat.le_of_ble_eq_true rfl) (g_lt (k := 1) hb (Nat.le_of_ble_eq_true rfl)) (fun _ => rfl) (fun _ => rfl) rfl ((g_set (k := 0) hb).trans rfl) ?_
  refine e_aload_n dX1_init_12 rfl 0 rfl ?_
  refine e_iconst (v := 0) dX1_init_13 rfl ?_
  refine e_putI dX1_init_14 lkX1_15' ((g_at (k := 0) hb).trans rfl) rfl rfl rfl ?_
  rw [show sup (zr σ b 2) b 1 0 = zr σ b 2 from sup_z (zr_i (k := 0) (by decide))]
  refine e_aload_n dX1_init_17 rfl 0 rfl ?_
  refine e_iconst (v := 0) dX1_init_18 rfl ?_
  refine e_putI dX1_init_19 lkX1_19' ((g_at (k := 0) hb).trans rfl) rfl rfl rfl ?_
  rw [show sup (zr σ b 2) b 2 0 = zr σ b 2 from sup_z (zr_i (k := 0) (by decide))]
  refine e_aload_n dX1_init_22 rfl 0 rfl ?_
  refine e_iconst (v := 0) dX1_init_23 rfl ?_
  refine e_putI dX1_init_24 lkX1_22' ((g_at (k := 0) hb).trans rfl) rfl rfl rfl ?_
  rw [show sup (zr σ b 2) b 3 0 = zr σ b 2 from sup_z (zr_i (k := 0) (by decide))]
  exact e_vret dX1_init_27 rfl (Nat.le_of_ble_eq_true rfl) (Nat.le_of_ble_eq_true rfl) ⟨rfl, rfl, rfl, rfl⟩

set_option maxRecDepth 100000 in
theorem k_Span {T0 : List ex_T} {b : Nat} (hb : T0.length = b) (hB : b ≤ 900) {nn : Nat} (hn : nn < b) {T1 T2 : List ex_T} (hT1 : T0 ++ [.inl (7, [some none, none, some none])] = T1) (hT2 : T0 ++ [.inl (7, [some (some (b + 1)), none, some (some nn)]), .inr (0, 6, [])] = T2) {σ : ex_S} {μ : ex_L} : Cl 2 1 6 yX7_init cX7_init 2 none [.ref b, .ref nn] T1 (zr σ b 1) μ (fun v T' σ' μ' => v = none ∧ T' = T2 ∧ σ' = zr σ b 2 ∧ μ' = μ) := by
  subst hT1 hT2
  refine Cl_of (by decide +kernel) (Nat.le_of_ble_eq_true rfl) ?_
  show Ev RX7 cX7_init 2 2 1 6 "<init>" none ev_ext _ _ 0 0 0 [(0, .ref b), (1, .ref nn)] [] _ _ μ
  refine e_aload_n dX7_init_0 rfl 0 rfl ?_
  refine e_objI dX7_init_1 koX7_3 (Nat.le_of_ble_eq_true rfl) (Nat.le_of_ble_eq_true rfl) ?_
  refine e_aload_n dX7_init_4 rfl 0 rfl ?_
  refine e_aload_n dX7_init_5 rfl 1 rfl ?_
  refine e_putR (T' := (T0 ++ [.inl (7, [some none, none, some (some nn)])])) dX7_init_6 lkX7_9' ((g_at (k := 0) hb).trans rfl) (Nat.le_of_ble_eq_true rfl) (g_ltp hb hn) (fun _ => rfl) (fun _ => rfl) rfl ((g_set (k := 0) hb).trans rfl) ?_
  refine e_aload_n dX7_init_9 rfl 0 rfl ?_
  refine e_bipush (v := 6) dX7_init_10 rfl ?_
  refine e_newAi (i := (b + 1)) (N := 6) (T' := (T0 ++ [.inl (7, [some none, none, some (some nn)]), .inr (0, 6, [])])) dX7_init_12 (by decide) (by decide) (by decide) ((g_len hb).trans rfl) (by omega) ((List.append_assoc _ _ _).trans rfl) (Nat.le_of_ble_eq_true rfl) (Nat.le_of_ble_eq_true rfl) (g_c (g_ok (k := 0) hb (Nat.le_of_ble_eq_true rfl)) (g_c (g_okp hb hn) g_n)) (g_c0 (g_ok (k := 0) hb (Nat.le_of_ble_eq_true rfl)) g_n0) ?_
  rw [show srow (zr σ b 1) (b + 1) (fun _ => 0) = zr σ b 2 from zr_s]
  refine e_putR (T' := (T0 ++ [.inl (7, [some (some (b + 1)), none, some (some nn)]), .inr (0, 6, [])])) dX7_init_14 lkX7_15' ((g_at (k := 0) hb).trans rfl) (Nat.le_of_ble_eq_true rfl) (g_lt (k := 1) hb (Nat.le_of_ble_eq_true rfl)) (fun _ => rfl) (fun _ => rfl) rfl ((g_set (k := 0) hb).trans rfl) ?_
  refine e_aload_n dX7_init_17 rfl 0 rfl ?_
  refine e_iconst (v := 0) dX7_init_18 rfl ?_
  refine e_putI dX7_init_19 lkX7_19' ((g_at (k := 0) hb).trans rfl) rfl rfl rfl ?_
  rw [show sup (zr σ b 2) b 1 0 = zr σ b 2 from sup_z (zr_i (k := 0) (by decide))]
  exact e_vret dX7_init_22 rfl (Nat.le_of_ble_eq_true rfl) (Nat.le_of_ble_eq_true rfl) ⟨rfl, rfl, rfl, rfl⟩

set_option maxRecDepth 100000 in
theorem k_Helps {T0 : List ex_T} {b : Nat} (hb : T0.length = b) (hB : b ≤ 900) {nn : Nat} (hn : nn < b) {T1 T2 : List ex_T} (hT1 : T0 ++ [.inl (2, [some none, some none])] = T1) (hT2 : T0 ++ [.inl (2, [some (some nn), some (some (b + 1))]), .inr (0, 1024, [])] = T2) {σ : ex_S} {μ : ex_L} : Cl 2 1 1024 yX2_init cX2_init 2 none [.ref b, .ref nn] T1 (zr σ b 1) μ (fun v T' σ' μ' => v = none ∧ T' = T2 ∧ σ' = zr σ b 2 ∧ μ' = μ) := by
  subst hT1 hT2
  refine Cl_of (by decide +kernel) (Nat.le_of_ble_eq_true rfl) ?_
  show Ev RX2 cX2_init 2 2 1 1024 "<init>" none ev_ext _ _ 0 0 0 [(0, .ref b), (1, .ref nn)] [] _ _ μ
  refine e_aload_n dX2_init_0 rfl 0 rfl ?_
  refine e_objI dX2_init_1 koX2_3 (Nat.le_of_ble_eq_true rfl) (Nat.le_of_ble_eq_true rfl) ?_
  refine e_aload_n dX2_init_4 rfl 0 rfl ?_
  refine e_aload_n dX2_init_5 rfl 1 rfl ?_
  refine e_putR (T' := (T0 ++ [.inl (2, [some (some nn), some none])])) dX2_init_6 lkX2_9' ((g_at (k := 0) hb).trans rfl) (Nat.le_of_ble_eq_true rfl) (g_ltp hb hn) (fun _ => rfl) (fun _ => rfl) rfl ((g_set (k := 0) hb).trans rfl) ?_
  refine e_aload_n dX2_init_9 rfl 0 rfl ?_
  refine e_sipush (v := 1024) dX2_init_10 rfl ?_
  refine e_newAi (i := (b + 1)) (N := 1024) (T' := (T0 ++ [.inl (2, [some (some nn), some none]), .inr (0, 1024, [])])) dX2_init_13 (by decide) (by decide) (by decide) ((g_len hb).trans rfl) (by omega) ((List.append_assoc _ _ _).trans rfl) (Nat.le_of_ble_eq_true rfl) (Nat.le_of_ble_eq_true rfl) (g_c (g_ok (k := 0) hb (Nat.le_of_ble_eq_true rfl)) (g_c (g_okp hb hn) g_n)) (g_c0 (g_ok (k := 0) hb (Nat.le_of_ble_eq_true rfl)) g_n0) ?_
  rw [show srow (zr σ b 1) (b + 1) (fun _ => 0) = zr σ b 2 from zr_s]
  refine e_putR (T' := (T0 ++ [.inl (2, [some (some nn), some (some (b + 1))]), .inr (0, 1024, [])])) dX2_init_15 lkX2_15' ((g_at (k := 0) hb).trans rfl) (Nat.le_of_ble_eq_true rfl) (g_lt (k := 1) hb (Nat.le_of_ble_eq_true rfl)) (fun _ => rfl) (fun _ => rfl) rfl ((g_set (k := 0) hb).trans rfl) ?_
  exact e_vret dX2_init_18 rfl (Nat.le_of_ble_eq_true rfl) (Nat.le_of_ble_eq_true rfl) ⟨rfl, rfl, rfl, rfl⟩

set_option maxRecDepth 100000 in
theorem k_Nodes {T0 : List ex_T} {b : Nat} (hb : T0.length = b) (hB : b ≤ 900) {T1 T2 : List ex_T} (hT1 : T0 ++ [.inl (3, [none, none, none, none, some none, some none, some none, some none, some none, some none, some none, some none])] = T1) (hT2 : T0 ++ [.inl (3, [none, none, none, none, some (some (b + 1)), some (some (b + 2)), some (some (b + 3)), some (some (b + 4)), some (some (b + 5)), some (some (b + 6)), some (some (b + 17)), some (some (b + 18))]), .inr (0, 10, []), .inr (0, 10, []), .inr (0, 10, []), .inr (0, 10, []), .inr (0, 10, []), .inr (3, 10, [some (b + 7), some (b + 8), some (b + 9), some (b + 10), some (b + 11), some (b + 12), some (b + 13), some (b + 14), some (b + 15), some (b + 16)]), .inr (0, 4, []), .inr (0, 4, []), .inr (0, 4, []), .inr (0, 4, []), .inr (0, 4, []), .inr (0, 4, []), .inr (0, 4, []), .inr (0, 4, []), .inr (0, 4, []), .inr (0, 4, []), .inr (0, 5, []), .inr (0, 5, [])] = T2) {σ : ex_S} {μ : ex_L} : Cl 2 18 110 yX3_init cX3_init 1 none [.ref b] T1 (zr σ b 1) μ (fun v T' σ' μ' => v = none ∧ T' = T2 ∧ σ' = zr σ b 19 ∧ μ' = μ) := by
  subst hT1 hT2
  refine Cl_of (by decide +kernel) (Nat.le_of_ble_eq_true rfl) ?_
  show Ev RX3 cX3_init 1 2 18 110 "<init>" none ev_ext _ _ 0 0 0 [(0, .ref b)] [] _ _ μ
  refine e_aload_n dX3_init_0 rfl 0 rfl ?_
  refine e_objI dX3_init_1 koX3_3 (Nat.le_of_ble_eq_true rfl) (Nat.le_of_ble_eq_true rfl) ?_
  refine e_aload_n dX3_init_4 rfl 0 rfl ?_
  refine e_iconst (v := 0) dX3_init_5 rfl ?_
  refine e_putI dX3_init_6 lkX3_9' ((g_at (k := 0) hb).trans rfl) rfl rfl rfl ?_
  rw [show sup (zr σ b 1) b 0 0 = zr σ b 1 from sup_z (zr_i (k := 0) (by decide))]
  refine e_aload_n dX3_init_9 rfl 0 rfl ?_
  refine e_iconst (v := 0) dX3_init_10 rfl ?_
  refine e_putI dX3_init_11 lkX3_15' ((g_at (k := 0) hb).trans rfl) rfl rfl rfl ?_
  rw [show sup (zr σ b 1) b 1 0 = zr σ b 1 from sup_z (zr_i (k := 0) (by decide))]
  refine e_aload_n dX3_init_14 rfl 0 rfl ?_
  refine e_iconst (v := 0) dX3_init_15 rfl ?_
  refine e_putI dX3_init_16 lkX3_18' ((g_at (k := 0) hb).trans rfl) rfl rfl rfl ?_
  rw [show sup (zr σ b 1) b 2 0 = zr σ b 1 from sup_z (zr_i (k := 0) (by decide))]
  refine e_aload_n dX3_init_19 rfl 0 rfl ?_
  refine e_iconst (v := 0) dX3_init_20 rfl ?_
  refine e_putI dX3_init_21 lkX3_21' ((g_at (k := 0) hb).trans rfl) rfl rfl rfl ?_
  rw [show sup (zr σ b 1) b 3 0 = zr σ b 1 from sup_z (zr_i (k := 0) (by decide))]
  refine e_aload_n dX3_init_24 rfl 0 rfl ?_
  refine e_bipush (v := 10) dX3_init_25 rfl ?_
  refine e_newAi (i := (b + 1)) (N := 10) (T' := (T0 ++ [.inl (3, [none, none, none, none, some none, some none, some none, some none, some none, some none, some none, some none]), .inr (0, 10, [])])) dX3_init_27 (by decide) (by decide) (by decide) ((g_len hb).trans rfl) (by omega) ((List.append_assoc _ _ _).trans rfl) (Nat.le_of_ble_eq_true rfl) (Nat.le_of_ble_eq_true rfl) (g_c (g_ok (k := 0) hb (Nat.le_of_ble_eq_true rfl)) g_n) (g_c0 (g_ok (k := 0) hb (Nat.le_of_ble_eq_true rfl)) g_n0) ?_
  rw [show srow (zr σ b 1) (b + 1) (fun _ => 0) = zr σ b 2 from zr_s]
  refine e_putR (T' := (T0 ++ [.inl (3, [none, none, none, none, some (some (b + 1)), some none, some none, some none, some none, some none, some none, some none]), .inr (0, 10, [])])) dX3_init_29 lkX3_24' ((g_at (k := 0) hb).trans rfl) (Nat.le_of_ble_eq_true rfl) (g_lt (k := 1) hb (Nat.le_of_ble_eq_true rfl)) (fun _ => rfl) (fun _ => rfl) rfl ((g_set (k := 0) hb).trans rfl) ?_
  refine e_aload_n dX3_init_32 rfl 0 rfl ?_
  refine e_bipush (v := 10) dX3_init_33 rfl ?_
  refine e_newAi (i := (b + 2)) (N := 10) (T' := (T0 ++ [.inl (3, [none, none, none, none, some (some (b + 1)), some none, some none, some none, some none, some none, some none, some none]), .inr (0, 10, []), .inr (0, 10, [])])) dX3_init_35 (by decide) (by decide) (by decide) ((g_len hb).trans rfl) (by omega) ((List.append_assoc _ _ _).trans rfl) (Nat.le_of_ble_eq_true rfl) (Nat.le_of_ble_eq_true rfl) (g_c (g_ok (k := 0) hb (Nat.le_of_ble_eq_true rfl)) g_n) (g_c0 (g_ok (k := 0) hb (Nat.le_of_ble_eq_true rfl)) g_n0) ?_
  rw [show srow (zr σ b 2) (b + 2) (fun _ => 0) = zr σ b 3 from zr_s]
  refine e_putR (T' := (T0 ++ [.inl (3, [none, none, none, none, some (some (b + 1)), some (some (b + 2)), some none, some none, some none, some none, some none, some none]), .inr (0, 10, []), .inr (0, 10, [])])) dX3_init_37 lkX3_28' ((g_at (k := 0) hb).trans rfl) (Nat.le_of_ble_eq_true rfl) (g_lt (k := 2) hb (Nat.le_of_ble_eq_true rfl)) (fun _ => rfl) (fun _ => rfl) rfl ((g_set (k := 0) hb).trans rfl) ?_
  refine e_aload_n dX3_init_40 rfl 0 rfl ?_
  refine e_bipush (v := 10) dX3_init_41 rfl ?_
  refine e_newAi (i := (b + 3)) (N := 10) (T' := (T0 ++ [.inl (3, [none, none, none, none, some (some (b + 1)), some (some (b + 2)), some none, some none, some none, some none, some none, some none]), .inr (0, 10, []), .inr (0, 10, []), .inr (0, 10, [])])) dX3_init_43 (by decide) (by decide) (by decide) ((g_len hb).trans rfl) (by omega) ((List.append_assoc _ _ _).trans rfl) (Nat.le_of_ble_eq_true rfl) (Nat.le_of_ble_eq_true rfl) (g_c (g_ok (k := 0) hb (Nat.le_of_ble_eq_true rfl)) g_n) (g_c0 (g_ok (k := 0) hb (Nat.le_of_ble_eq_true rfl)) g_n0) ?_
  rw [show srow (zr σ b 3) (b + 3) (fun _ => 0) = zr σ b 4 from zr_s]
  refine e_putR (T' := (T0 ++ [.inl (3, [none, none, none, none, some (some (b + 1)), some (some (b + 2)), some (some (b + 3)), some none, some none, some none, some none, some none]), .inr (0, 10, []), .inr (0, 10, []), .inr (0, 10, [])])) dX3_init_45 lkX3_31' ((g_at (k := 0) hb).trans rfl) (Nat.le_of_ble_eq_true rfl) (g_lt (k := 3) hb (Nat.le_of_ble_eq_true rfl)) (fun _ => rfl) (fun _ => rfl) rfl ((g_set (k := 0) hb).trans rfl) ?_
  refine e_aload_n dX3_init_48 rfl 0 rfl ?_
  refine e_bipush (v := 10) dX3_init_49 rfl ?_
  refine e_newAi (i := (b + 4)) (N := 10) (T' := (T0 ++ [.inl (3, [none, none, none, none, some (some (b + 1)), some (some (b + 2)), some (some (b + 3)), some none, some none, some none, some none, some none]), .inr (0, 10, []), .inr (0, 10, []), .inr (0, 10, []), .inr (0, 10, [])])) dX3_init_51 (by decide) (by decide) (by decide) ((g_len hb).trans rfl) (by omega) ((List.append_assoc _ _ _).trans rfl) (Nat.le_of_ble_eq_true rfl) (Nat.le_of_ble_eq_true rfl) (g_c (g_ok (k := 0) hb (Nat.le_of_ble_eq_true rfl)) g_n) (g_c0 (g_ok (k := 0) hb (Nat.le_of_ble_eq_true rfl)) g_n0) ?_
  rw [show srow (zr σ b 4) (b + 4) (fun _ => 0) = zr σ b 5 from zr_s]
  refine e_putR (T' := (T0 ++ [.inl (3, [none, none, none, none, some (some (b + 1)), some (some (b + 2)), some (some (b + 3)), some (some (b + 4)), some none, some none, some none, some none]), .inr (0, 10, []), .inr (0, 10, []), .inr (0, 10, []), .inr (0, 10, [])])) dX3_init_53 lkX3_34' ((g_at (k := 0) hb).trans rfl) (Nat.le_of_ble_eq_true rfl) (g_lt (k := 4) hb (Nat.le_of_ble_eq_true rfl)) (fun _ => rfl) (fun _ => rfl) rfl ((g_set (k := 0) hb).trans rfl) ?_
  refine e_aload_n dX3_init_56 rfl 0 rfl ?_
  refine e_bipush (v := 10) dX3_init_57 rfl ?_
  refine e_newAi (i := (b + 5)) (N := 10) (T' := (T0 ++ [.inl (3, [none, none, none, none, some (some (b + 1)), some (some (b + 2)), some (some (b + 3)), some (some (b + 4)), some none, some none, some none, some none]), .inr (0, 10, []), .inr (0, 10, []), .inr (0, 10, []), .inr (0, 10, []), .inr (0, 10, [])])) dX3_init_59 (by decide) (by decide) (by decide) ((g_len hb).trans rfl) (by omega) ((List.append_assoc _ _ _).trans rfl) (Nat.le_of_ble_eq_true rfl) (Nat.le_of_ble_eq_true rfl) (g_c (g_ok (k := 0) hb (Nat.le_of_ble_eq_true rfl)) g_n) (g_c0 (g_ok (k := 0) hb (Nat.le_of_ble_eq_true rfl)) g_n0) ?_
  rw [show srow (zr σ b 5) (b + 5) (fun _ => 0) = zr σ b 6 from zr_s]
  refine e_putR (T' := (T0 ++ [.inl (3, [none, none, none, none, some (some (b + 1)), some (some (b + 2)), some (some (b + 3)), some (some (b + 4)), some (some (b + 5)), some none, some none, some none]), .inr (0, 10, []), .inr (0, 10, []), .inr (0, 10, []), .inr (0, 10, []), .inr (0, 10, [])])) dX3_init_61 lkX3_37' ((g_at (k := 0) hb).trans rfl) (Nat.le_of_ble_eq_true rfl) (g_lt (k := 5) hb (Nat.le_of_ble_eq_true rfl)) (fun _ => rfl) (fun _ => rfl) rfl ((g_set (k := 0) hb).trans rfl) ?_
  refine e_aload_n dX3_init_64 rfl 0 rfl ?_
  refine e_bipush (v := 10) dX3_init_65 rfl ?_
  refine e_iconst (v := 4) dX3_init_67 rfl ?_
  refine e_mnai (i := (b + 6)) (N := 10) (M := 4) (T' := (T0 ++ [.inl (3, [none, none, none, none, some (some (b + 1)), some (some (b + 2)), some (some (b + 3)), some (some (b + 4)), some (some (b + 5)), some none, some none, some none]), .inr (0, 10, []), .inr (0, 10, []), .inr (0, 10, []), .inr (0, 10, []), .inr (0, 10, []), .inr (3, 10, [some (b + 7), some (b + 8), some (b + 9), some (b + 10), some (b + 11), some (b + 12), some (b + 13), some (b + 14), some (b + 15), some (b + 16)]), .inr (0, 4, []), .inr (0, 4, []), .inr (0, 4, []), .inr (0, 4, []), .inr (0, 4, []), .inr (0, 4, []), .inr (0, 4, []), .inr (0, 4, []), .inr (0, 4, []), .inr (0, 4, [])])) dX3_init_68 klX3_40 (by decide) (by decide) (by decide) (by decide) (by decide) (by decide) ((g_len hb).trans rfl) (by omega) ((List.append_assoc _ _ _).trans rfl) (Nat.le_of_ble_eq_true rfl) (Nat.le_of_ble_eq_true rfl) (g_c (g_ok (k := 0) hb (Nat.le_of_ble_eq_true rfl)) g_n) (g_c0 (g_ok (k := 0) hb (Nat.le_of_ble_eq_true rfl)) g_n0) ?_
  rw [show mn_s (zr σ b 6) (b + 6) 10 0 = zr σ b 17 from zr_m]
  refine e_putR (T' := (T0 ++ [.inl (3, [none, none, none, none, some (some (b + 1)), some (some (b + 2)), some (some (b + 3)), some (some (b + 4)), some (some (b + 5)), some (some (b + 6)), some none, some none]), .inr (0, 10, []), .inr (0, 10, []), .inr (0, 10, []), .inr (0, 10, []), .inr (0, 10, []), .inr (3, 10, [some (b + 7), some (b + 8), some (b + 9), some (b + 10), some (b + 11), some (b + 12), some (b + 13), some (b + 14), some (b + 15), some (b + 16)]), .inr (0, 4, []), .inr (0, 4, []), .inr (0, 4, []), .inr (0, 4, []), .inr (0, 4, []), .inr (0, 4, []), .inr (0, 4, []), .inr (0, 4, []), .inr (0, 4, []), .inr (0, 4, [])])) dX3_init_72 lkX3_42' ((g_at (k := 0) hb).trans rfl) (Nat.le_of_ble_eq_true rfl) (g_lt (k := 6) hb (Nat.le_of_ble_eq_true rfl)) (fun _ => rfl) (fun _ => rfl) rfl ((g_set (k := 0) hb).trans rfl) ?_
  refine e_aload_n dX3_init_75 rfl 0 rfl ?_
  refine e_iconst (v := 5) dX3_init_76 rfl ?_
  refine e_newAi (i := (b + 17)) (N := 5) (T' := (T0 ++ [.inl (3, [none, none, none, none, some (some (b + 1)), some (some (b + 2)), some (some (b + 3)), some (some (b + 4)), some (some (b + 5)), some (some (b + 6)), some none, some none]), .inr (0, 10, []), .inr (0, 10, []), .inr (0, 10, []), .inr (0, 10, []), .inr (0, 10, []), .inr (3, 10, [some (b + 7), some (b + 8), some (b + 9), some (b + 10), some (b + 11), some (b + 12), some (b + 13), some (b + 14), some (b + 15), some (b + 16)]), .inr (0, 4, []), .inr (0, 4, []), .inr (0, 4, []), .inr (0, 4, []), .inr (0, 4, []), .inr (0, 4, []), .inr (0, 4, []), .inr (0, 4, []), .inr (0, 4, []), .inr (0, 4, []), .inr (0, 5, [])])) dX3_init_77 (by decide) (by decide) (by decide) ((g_len hb).trans rfl) (by omega) ((List.append_assoc _ _ _).trans rfl) (Nat.le_of_ble_eq_true rfl) (Nat.le_of_ble_eq_true rfl) (g_c (g_ok (k := 0) hb (Nat.le_of_ble_eq_true rfl)) g_n) (g_c0 (g_ok (k := 0) hb (Nat.le_of_ble_eq_true rfl)) g_n0) ?_
  rw [show srow (zr σ b 17) (b + 17) (fun _ => 0) = zr σ b 18 from zr_s]
  refine e_putR (T' := (T0 ++ [.inl (3, [none, none, none, none, some (some (b + 1)), some (some (b + 2)), some (some (b + 3)), some (some (b + 4)), some (some (b + 5)), some (some (b + 6)), some (some (b + 17)), some none]), .inr (0, 10, []), .inr (0, 10, []), .inr (0, 10, []), .inr (0, 10, []), .inr (0, 10, []), .inr (3, 10, [some (b + 7), some (b + 8), some (b + 9), some (b + 10), some (b + 11), some (b + 12), some (b + 13), some (b + 14), some (b + 15), some (b + 16)]), .inr (0, 4, []), .inr (0, 4, []), .inr (0, 4, []), .inr (0, 4, []), .inr (0, 4, []), .inr (0, 4, []), .inr (0, 4, []), .inr (0, 4, []), .inr (0, 4, []), .inr (0, 4, []), .inr (0, 5, [])])) dX3_init_79 lkX3_45' ((g_at (k := 0) hb).trans rfl) (Nat.le_of_ble_eq_true rfl) (g_lt (k := 17) hb (Nat.le_of_ble_eq_true rfl)) (fun _ => rfl) (fun _ => rfl) rfl ((g_set (k := 0) hb).trans rfl) ?_
  refine e_aload_n dX3_init_82 rfl 0 rfl ?_
  refine e_iconst (v := 5) dX3_init_83 rfl ?_
  refine e_newAi (i := (b + 18)) (N := 5) (T' := (T0 ++ [.inl (3, [none, none, none, none, some (some (b + 1)), some (some (b + 2)), some (some (b + 3)), some (some (b + 4)), some (some (b + 5)), some (some (b + 6)), some (some (b + 17)), some none]), .inr (0, 10, []), .inr (0, 10, []), .inr (0, 10, []), .inr (0, 10, []), .inr (0, 10, []), .inr (3, 10, [some (b + 7), some (b + 8), some (b + 9), some (b + 10), some (b + 11), some (b + 12), some (b + 13), some (b + 14), some (b + 15), some (b + 16)]), .inr (0, 4, []), .inr (0, 4, []), .inr (0, 4, []), .inr (0, 4, []), .inr (0, 4, []), .inr (0, 4, []), .inr (0, 4, []), .inr (0, 4, []), .inr (0, 4, []), .inr (0, 4, []), .inr (0, 5, []), .inr (0, 5, [])])) dX3_init_84 (by decide) (by decide) (by decide) ((g_len hb).trans rfl) (by omega) ((List.append_assoc _ _ _).trans rfl) (Nat.le_of_ble_eq_true rfl) (Nat.le_of_ble_eq_true rfl) (g_c (g_ok (k := 0) hb (Nat.le_of_ble_eq_true rfl)) g_n) (g_c0 (g_ok (k := 0) hb (Nat.le_of_ble_eq_true rfl)) g_n0) ?_
  rw [show srow (zr σ b 18) (b + 18) (fun _ => 0) = zr σ b 19 from zr_s]
  refine e_putR (T' := (T0 ++ [.inl (3, [none, none, none, none, some (some (b + 1)), some (some (b + 2)), some (some (b + 3)), some (some (b + 4)), some (some (b + 5)), some (some (b + 6)), some (some (b + 17)), some (some (b + 18))]), .inr (0, 10, []), .inr (0, 10, []), .inr (0, 10, []), .inr (0, 10, []), .inr (0, 10, []), .inr (3, 10, [some (b + 7), some (b + 8), some (b + 9), some (b + 10), some (b + 11), some (b + 12), some (b + 13), some (b + 14), some (b + 15), some (b + 16)]), .inr (0, 4, []), .inr (0, 4, []), .inr (0, 4, []), .inr (0, 4, []), .inr (0, 4, []), .inr (0, 4, []), .inr (0, 4, []), .inr (0, 4, []), .inr (0, 4, []), .inr (0, 4, []), .inr (0, 5, []), .inr (0, 5, [])])) dX3_init_86 lkX3_48' ((g_at (k := 0) hb).trans rfl) (Nat.le_of_ble_eq_true rfl) (g_lt (k := 18) hb (Nat.le_of_ble_eq_true rfl)) (fun _ => rfl) (fun _ => rfl) rfl ((g_set (k := 0) hb).trans rfl) ?_
  exact e_vret dX3_init_89 rfl (Nat.le_of_ble_eq_true rfl) (Nat.le_of_ble_eq_true rfl) ⟨rfl, rfl, rfl, rfl⟩

set_option maxRecDepth 100000 in
theorem k_Pairs5 {T0 : List ex_T} {b : Nat} (hb : T0.length = b) (hB : b ≤ 900) {T1 T2 : List ex_T} (hT1 : T0 ++ [.inl (5, [some none, some none, none])] = T1) (hT2 : T0 ++ [.inl (5, [some (some (b + 1)), some (some (b + 2)), none]), .inr (0, 5, []), .inr (0, 5, [])] = T2) {σ : ex_S} {μ : ex_L} : Cl 3 2 10 yX5_init cX5_init 3 none [.ref b, .int 5] T1 (zr σ b 1) μ (fun v T' σ' μ' => v = none ∧ T' = T2 ∧ σ' = zr σ b 3 ∧ μ' = μ) := by
  subst hT1 hT2
  refine Cl_of (by decide +kernel) (Nat.le_of_ble_eq_true rfl) ?_
  show Ev RX5 cX5_init 3 3 2 10 "<init>" none ev_ext _ _ 0 0 0 [(0, .ref b), (1, .int 5)] [] _ _ μ
  refine e_aload_n dX5_init_0 rfl 0 rfl ?_
  refine e_objI dX5_init_1 koX5_1 (Nat.le_of_ble_eq_true rfl) (Nat.le_of_ble_eq_true rfl) ?_
  refine e_iconst (v := 0) dX5_init_4 rfl ?_
  refine e_iload_n dX5_init_5 rfl 1 rfl ?_
  refine e_mmax dX5_init_6 cvX5_7 (Nat.le_of_ble_eq_true rfl) (Nat.le_of_ble_eq_true rfl) (Nat.le_of_ble_eq_true rfl) (Nat.le_of_ble_eq_true rfl) ?_
  refine e_name (fun x hx => ?_)
  obtain rfl : x = 5 := hx.trans (by decide)
  refine e_istore_n [(0, .ref b), (1, .int 5), (2, .int 5)] dX5_init_9 rfl (by decide) rfl ?_
  refine e_aload_n dX5_init_10 rfl 0 rfl ?_
  refine e_iload_n dX5_init_11 rfl 2 rfl ?_
  refine e_newAi (i := (b + 1)) (N := 5) (T' := (T0 ++ [.inl (5, [some none, some none, none]), .inr (0, 5, [])])) dX5_init_12 (by decide) (by decide) (by decide) ((g_len hb).trans rfl) (by omega) ((List.append_assoc _ _ _).trans rfl) (Nat.le_of_ble_eq_true rfl) (Nat.le_of_ble_eq_true rfl) (g_c (g_ok (k := 0) hb (Nat.le_of_ble_eq_true rfl)) (g_c True.intro (g_c True.intro g_n))) (g_c0 (g_ok (k := 0) hb (Nat.le_of_ble_eq_true rfl)) g_n0) ?_
  rw [show srow (zr σ b 1) (b + 1) (fun _ => 0) = zr σ b 2 from zr_s]
  refine e_putR (T' := (T0 ++ [.inl (5, [some (some (b + 1)), some none, none]), .inr (0, 5, [])])) dX5_init_14 lkX5_13' ((g_at (k := 0) hb).trans rfl) (Nat.le_of_ble_eq_true rfl) (g_lt (k := 1) hb (Nat.le_of_ble_eq_true rfl)) (fun _ => rfl) (fun _ => rfl) rfl ((g_set (k := 0) hb).trans rfl) ?_
  refine e_aload_n dX5_init_17 rfl 0 rfl ?_
  refine e_iload_n dX5_init_18 rfl 2 rfl ?_
  refine e_newAi (i := (b + 2)) (N := 5) (T' := (T0 ++ [.inl (5, [some (some (b + 1)), some none, none]), .inr (0, 5, []), .inr (0, 5, [])])) dX5_init_19 (by decide) (by decide) (by decide) ((g_len hb).trans rfl) (by omega) ((List.append_assoc _ _ _).trans rfl) (Nat.le_of_ble_eq_true rfl) (Nat.le_of_ble_eq_true rfl) (g_c (g_ok (k := 0) hb (Nat.le_of_ble_eq_true rfl)) (g_c True.intro (g_c True.intro g_n))) (g_c0 (g_ok (k := 0) hb (Nat.le_of_ble_eq_true rfl)) g_n0) ?_
  rw [show srow (zr σ b 2) (b + 2) (fun _ => 0) = zr σ b 3 from zr_s]
  refine e_putR (T' := (T0 ++ [.inl (5, [some (some (b + 1)), some (some (b + 2)), none]), .inr (0, 5, []), .inr (0, 5, [])])) dX5_init_21 lkX5_19' ((g_at (k := 0) hb).trans rfl) (Nat.le_of_ble_eq_true rfl) (g_lt (k := 2) hb (Nat.le_of_ble_eq_true rfl)) (fun _ => rfl) (fun _ => rfl) rfl ((g_set (k := 0) hb).trans rfl) ?_
  refine e_aload_n dX5_init_24 rfl 0 rfl ?_
  refine e_iconst (v := 0) dX5_init_25 rfl ?_
  refine e_putI dX5_init_26 lkX5_22' ((g_at (k := 0) hb).trans rfl) rfl rfl rfl ?_
  rw [show sup (zr σ b 3) b 2 0 = zr σ b 3 from sup_z (zr_i (k := 0) (by decide))]
  exact e_vret dX5_init_29 rfl (Nat.le_of_ble_eq_true rfl) (Nat.le_of_ble_eq_true rfl) ⟨rfl, rfl, rfl, rfl⟩

set_option maxRecDepth 100000 in
theorem k_Pairs10 {T0 : List ex_T} {b : Nat} (hb : T0.length = b) (hB : b ≤ 900) {T1 T2 : List ex_T} (hT1 : T0 ++ [.inl (5, [some none, some none, none])] = T1) (hT2 : T0 ++ [.inl (5, [some (some (b + 1)), some (some (b + 2)), none]), .inr (0, 10, []), .inr (0, 10, [])] = T2) {σ : ex_S} {μ : ex_L} : Cl 3 2 20 yX5_init cX5_init 3 none [.ref b, .int 10] T1 (zr σ b 1) μ (fun v T' σ' μ' => v = none ∧ T' = T2 ∧ σ' = zr σ b 3 ∧ μ' = μ) := by
  subst hT1 hT2
  refine Cl_of (by decide +kernel) (Nat.le_of_ble_eq_true rfl) ?_
  show Ev RX5 cX5_init 3 3 2 20 "<init>" none ev_ext _ _ 0 0 0 [(0, .ref b), (1, .int 10)] [] _ _ μ
  refine e_aload_n dX5_init_0 rfl 0 rfl ?_
  refine e_objI dX5_init_1 koX5_1 (Nat.le_of_ble_eq_true rfl) (Nat.le_of_ble_eq_true rfl) ?_
  refine e_iconst (v := 0) dX5_init_4 rfl ?_
  refine e_iload_n dX5_init_5 rfl 1 rfl ?_
  refine e_mmax dX5_init_6 cvX5_7 (Nat.le_of_ble_eq_true rfl) (Nat.le_of_ble_eq_true rfl) (Nat.le_of_ble_eq_true rfl) (Nat.le_of_ble_eq_true rfl) ?_
  refine e_name (fun x hx => ?_)
  obtain rfl : x = 10 := hx.trans (by decide)
  refine e_istore_n [(0, .ref b), (1, .int 10), (2, .int 10)] dX5_init_9 rfl (by decide) rfl ?_
  refine e_aload_n dX5_init_10 rfl 0 rfl ?_
  refine e_iload_n dX5_init_11 rfl 2 rfl ?_
  refine e_newAi (i := (b + 1)) (N := 10) (T' := (T0 ++ [.inl (5, [some none, some none, none]), .inr (0, 10, [])])) dX5_init_12 (by decide) (by decide) (by decide) ((g_len hb).trans rfl) (by omega) ((List.append_assoc _ _ _).trans rfl) (Nat.le_of_ble_eq_true rfl) (Nat.le_of_ble_eq_true rfl) (g_c (g_ok (k := 0) hb (Nat.le_of_ble_eq_true rfl)) (g_c True.intro (g_c True.intro g_n))) (g_c0 (g_ok (k := 0) hb (Nat.le_of_ble_eq_true rfl)) g_n0) ?_
  rw [show srow (zr σ b 1) (b + 1) (fun _ => 0) = zr σ b 2 from zr_s]
  refine e_putR (T' := (T0 ++ [.inl (5, [some (some (b + 1)), some none, none]), .inr (0, 10, [])])) dX5_init_14 lkX5_13' ((g_at (k := 0) hb).trans rfl) (Nat.le_of_ble_eq_true rfl) (g_lt (k := 1) hb (Nat.le_of_ble_eq_true rfl)) (fun _ => rfl) (fun _ => rfl) rfl ((g_set (k := 0) hb).trans rfl) ?_
  refine e_aload_n dX5_init_17 rfl 0 rfl ?_
  refine e_iload_n dX5_init_18 rfl 2 rfl ?_
  refine e_newAi (i := (b + 2)) (N := 10) (T' := (T0 ++ [.inl (5, [some (some (b + 1)), some none, none]), .inr (0, 10, []), .inr (0, 10, [])])) dX5_init_19 (by decide) (by decide) (by decide) ((g_len hb).trans rfl) (by omega) ((List.append_assoc _ _ _).trans rfl) (Nat.le_of_ble_eq_true rfl) (Nat.le_of_ble_eq_true rfl) (g_c (g_ok (k := 0) hb (Nat.le_of_ble_eq_true rfl)) (g_c True.intro (g_c True.intro g_n))) (g_c0 (g_ok (k := 0) hb (Nat.le_of_ble_eq_true rfl)) g_n0) ?_
  rw [show srow (zr σ b 2) (b + 2) (fun _ => 0) = zr σ b 3 from zr_s]
  refine e_putR (T' := (T0 ++ [.inl (5, [some (some (b + 1)), some (some (b + 2)), none]), .inr (0, 10, []), .inr (0, 10, [])])) dX5_init_21 lkX5_19' ((g_at (k := 0) hb).trans rfl) (Nat.le_of_ble_eq_true rfl) (g_lt (k := 2) hb (Nat.le_of_ble_eq_true rfl)) (fun _ => rfl) (fun _ => rfl) rfl ((g_set (k := 0) hb).trans rfl) ?_
  refine e_aload_n dX5_init_24 rfl 0 rfl ?_
  refine e_iconst (v := 0) dX5_init_25 rfl ?_
  refine e_putI dX5_init_26 lkX5_22' ((g_at (k := 0) hb).trans rfl) rfl rfl rfl ?_
  rw [show sup (zr σ b 3) b 2 0 = zr σ b 3 from sup_z (zr_i (k := 0) (by decide))]
  exact e_vret dX5_init_29 rfl (Nat.le_of_ble_eq_true rfl) (Nat.le_of_ble_eq_true rfl) ⟨rfl, rfl, rfl, rfl⟩

set_option maxRecDepth 100000 in
theorem k_Pairs8 {T0 : List ex_T} {b : Nat} (hb : T0.length = b) (hB : b ≤ 900) {T1 T2 : List ex_T} (hT1 : T0 ++ [.inl (5, [some none, some none, none])] = T1) (hT2 : T0 ++ [.inl (5, [some (some (b + 1)), some (some (b + 2)), none]), .inr (0, 8, []), .inr (0, 8, [])] = T2) {σ : ex_S} {μ : ex_L} : Cl 3 2 16 yX5_init cX5_init 3 none [.ref b, .int 8] T1 (zr σ b 1) μ (fun v T' σ' μ' => v = none ∧ T' = T2 ∧ σ' = zr σ b 3 ∧ μ' = μ) := by
  subst hT1 hT2
  refine Cl_of (by decide +kernel) (Nat.le_of_ble_eq_true rfl) ?_
  show Ev RX5 cX5_init 3 3 2 16 "<init>" none ev_ext _ _ 0 0 0 [(0, .ref b), (1, .int 8)] [] _ _ μ
  refine e_aload_n dX5_init_0 rfl 0 rfl ?_
  refine e_objI dX5_init_1 koX5_1 (Nat.le_of_ble_eq_true rfl) (Nat.le_of_ble_eq_true rfl) ?_
  refine e_iconst (v := 0) dX5_init_4 rfl ?_
  refine e_iload_n dX5_init_5 rfl 1 rfl ?_
  refine e_mmax dX5_init_6 cvX5_7 (Nat.le_of_ble_eq_true rfl) (Nat.le_of_ble_eq_true rfl) (Nat.le_of_ble_eq_true rfl) (Nat.le_of_ble_eq_true rfl) ?_
  refine e_name (fun x hx => ?_)
  obtain rfl : x = 8 := hx.trans (by decide)
  refine e_istore_n [(0, .ref b), (1, .int 8), (2, .int 8)] dX5_init_9 rfl (by decide) rfl ?_
  refine e_aload_n dX5_init_10 rfl 0 rfl ?_
  refine e_iload_n dX5_init_11 rfl 2 rfl ?_
  refine e_newAi (i := (b + 1)) (N := 8) (T' := (T0 ++ [.inl (5, [some none, some none, none]), .inr (0, 8, [])])) dX5_init_12 (by decide) (by decide) (by decide) ((g_len hb).trans rfl) (by omega) ((List.append_assoc _ _ _).trans rfl) (Nat.le_of_ble_eq_true rfl) (Nat.le_of_ble_eq_true rfl) (g_c (g_ok (k := 0) hb (Nat.le_of_ble_eq_true rfl)) (g_c True.intro (g_c True.intro g_n))) (g_c0 (g_ok (k := 0) hb (Nat.le_of_ble_eq_true rfl)) g_n0) ?_
  rw [show srow (zr σ b 1) (b + 1) (fun _ => 0) = zr σ b 2 from zr_s]
  refine e_putR (T' := (T0 ++ [.inl (5, [some (some (b + 1)), some none, none]), .inr (0, 8, [])])) dX5_init_14 lkX5_13' ((g_at (k := 0) hb).trans rfl) (Nat.le_of_ble_eq_true rfl) (g_lt (k := 1) hb (Nat.le_of_ble_eq_true rfl)) (fun _ => rfl) (fun _ => rfl) rfl ((g_set (k := 0) hb).trans rfl) ?_
  refine e_aload_n dX5_init_17 rfl 0 rfl ?_
  refine e_iload_n dX5_init_18 rfl 2 rfl ?_
  refine e_newAi (i := (b + 2)) (N := 8) (T' := (T0 ++ [.inl (5, [some (some (b + 1)), some none, none]), .inr (0, 8, []), .inr (0, 8, [])])) dX5_init_19 (by decide) (by decide) (by decide) ((g_len hb).trans rfl) (by omega) ((List.append_assoc _ _ _).trans rfl) (Nat.le_of_ble_eq_true rfl) (Nat.le_of_ble_eq_true rfl) (g_c (g_ok (k := 0) hb (Nat.le_of_ble_eq_true rfl)) (g_c True.intro (g_c True.intro g_n))) (g_c0 (g_ok (k := 0) hb (Nat.le_of_ble_eq_true rfl)) g_n0) ?_
  rw [show srow (zr σ b 2) (b + 2) (fun _ => 0) = zr σ b 3 from zr_s]
  refine e_putR (T' := (T0 ++ [.inl (5, [some (some (b + 1)), some (some (b + 2)), none]), .inr (0, 8, []), .inr (0, 8, [])])) dX5_init_21 lkX5_19' ((g_at (k := 0) hb).trans rfl) (Nat.le_of_ble_eq_true rfl) (g_lt (k := 2) hb (Nat.le_of_ble_eq_true rfl)) (fun _ => rfl) (fun _ => rfl) rfl ((g_set (k := 0) hb).trans rfl) ?_
  refine e_aload_n dX5_init_24 rfl 0 rfl ?_
  refine e_iconst (v := 0) dX5_init_25 rfl ?_
  refine e_putI dX5_init_26 lkX5_22' ((g_at (k := 0) hb).trans rfl) rfl rfl rfl ?_
  rw [show sup (zr σ b 3) b 2 0 = zr σ b 3 from sup_z (zr_i (k := 0) (by decide))]
  exact e_vret dX5_init_29 rfl (Nat.le_of_ble_eq_true rfl) (Nat.le_of_ble_eq_true rfl) ⟨rfl, rfl, rfl, rfl⟩

set_option maxRecDepth 100000 in
theorem k_Store {T0 : List ex_T} {b : Nat} (hb : T0.length = b) (hB : b ≤ 700) {T1 T2 : List ex_T} (hT1 : T0 ++ [.inl (8, [some none, some none, some none, some none])] = T1) (hT2 : T0 ++ [.inl (8, [some (some (b + 1)), some (some (b + 20)), some (some (b + 23)), some (some (b + 26))]), .inl (3, [none, none, none, none, some (some (b + 2)), some (some (b + 3)), some (some (b + 4)), some (some (b + 5)), some (some (b + 6)), some (some (b + 7)), some (some (b + 18)), some (some (b + 19))]), .inr (0, 10, []), .inr (0, 10, []), .inr (0, 10, []), .inr (0, 10, []), .inr (0, 10, []), .inr (3, 10, [some (b + 8), some (b + 9), some (b + 10), some (b + 11), some (b + 12), some (b + 13), some (b + 14), some (b + 15), some (b + 16), some (b + 17)]), .inr (0, 4, []), .inr (0, 4, []), .inr (0, 4, []), .inr (0, 4, []), .inr (0, 4, []), .inr (0, 4, []), .inr (0, 4, []), .inr (0, 4, []), .inr (0, 4, []), .inr (0, 4, []), .inr (0, 5, []), .inr (0, 5, []), .inl (5, [some (some (b + 21)), some (some (b + 22)), none]), .inr (0, 5, []), .inr (0, 5, []), .inl (5, [some (some (b + 24)), some (some (b + 25)), none]), .inr (0, 10, []), .inr (0, 10, []), .inl (5, [some (some (b + 27)), some (some (b + 28)), none]), .inr (0, 8, []), .inr (0, 8, [])] = T2) {σ : ex_S} {μ : ex_L} : Cl 4 28 177 yX8_init cX8_init 1 none [.ref b] T1 (zr σ b 1) μ (fun v T' σ' μ' => v = none ∧ T' = T2 ∧ σ' = zr σ b 29 ∧ μ' = μ) := by
  subst hT1 hT2
  refine Cl_of (by decide +kernel) (Nat.le_of_ble_eq_true rfl) ?_
  show Ev RX8 cX8_init 1 4 28 177 "<init>" none ev_ext _ _ 0 0 0 [(0, .ref b)] [] _ _ μ
  refine e_aload_n dX8_init_0 rfl 0 rfl ?_
  refine e_objI dX8_init_1 koX8_3 (Nat.le_of_ble_eq_true rfl) (Nat.le_of_ble_eq_true rfl) ?_
  refine e_aload_n dX8_init_4 rfl 0 rfl ?_
  refine e_new (ci := 3) (i := (b + 1)) (sl := [none, none, none, none, some none, some none, some none, some none, some none, some none, some none, some none]) (T' := (T0 ++ [.inl (8, [some none, some none, some none, some none]), .inl (3, [none, none, none, none, some none, some none, some none, some none, some none, some none, some none, some none])])) dX8_init_5 rfl iw_3 tyX3_ok klX8_9 ki_X3 kz_X3 (by decide) df_3 ((g_len hb).trans rfl) (by omega) ((List.append_assoc _ _ _).trans rfl) (Nat.le_of_ble_eq_true rfl) (Nat.le_of_ble_eq_true rfl) (g_c (g_ok (k := 0) hb (Nat.le_of_ble_eq_true rfl)) g_n) (g_c0 (g_ok (k := 0) hb (Nat.le_of_ble_eq_true rfl)) g_n0) ?_
  rw [show srow (zr σ b 1) (b + 1) (fun _ => 0) = zr (zr σ b 1) (b + 1) 1 from zr_1]
  refine e_dup dX8_init_8 rfl ?_
  refine e_callI dX8_init_9 cvX8_11 rfl (k_Nodes (T0 := T0 ++ [.inl (8, [some none, some none, some none, some none])]) (b := (b + 1)) ((g_len hb).trans rfl) (by omega) (List.append_assoc _ _ _) (T2 := (T0 ++ [.inl (8, [some none, some none, some none, some none]), .inl (3, [none, none, none, none, some (some (b + 2)), some (some (b + 3)), some (some (b + 4)), some (some (b + 5)), some (some (b + 6)), some (some (b + 7)), some (some (b + 18)), some (some (b + 19))]), .inr (0, 10, []), .inr (0, 10, []), .inr (0, 10, []), .inr (0, 10, []), .inr (0, 10, []), .inr (3, 10, [some (b + 8), some (b + 9), some (b + 10), some (b + 11), some (b + 12), some (b + 13), some (b + 14), some (b + 15), some (b + 16), some (b + 17)]), .inr (0, 4, []), .inr (0, 4, []), .inr (0, 4, []), .inr (0, 4, []), .inr (0, 4, []), .inr (0, 4, []), .inr (0, 4, []), .inr (0, 4, []), .inr (0, 4, []), .inr (0, 4, []), .inr (0, 5, []), .inr (0, 5, [])])) ((List.append_assoc _ _ _).trans rfl)) (Nat.le_of_ble_eq_true rfl) (Nat.le_of_ble_eq_true rfl) (Nat.le_of_ble_eq_true rfl) rfl (Nat.le_of_ble_eq_true rfl) (g_c (g_ok (k := 0) hb (Nat.le_of_ble_eq_true rfl)) g_n) (g_c0 (g_ok (k := 1) hb (Nat.le_of_ble_eq_true rfl)) (g_c0 (g_ok (k := 0) hb (Nat.le_of_ble_eq_true rfl)) g_n0)) ?_
  intro T9 σ9 μ9 q
  obtain ⟨rfl, rfl, rfl⟩ := q
  rw [show zr (zr σ b 1) (b + 1) 19 = zr σ b 20 from zr_z]
  refine e_putR (T' := (T0 ++ [.inl (8, [some (some (b + 1)), some none, some none, some none]), .inl (3, [none, none, none, none, some (some (b + 2)), some (some (b + 3)), some (some (b + 4)), some (some (b + 5)), some (some (b + 6)), some (some (b + 7)), some (some (b + 18)), some (some (b + 19))]), .inr (0, 10, []), .inr (0, 10, []), .inr (0, 10, []), .inr (0, 10, []), .inr (0, 10, []), .inr (3, 10, [some (b + 8), some (b + 9), some (b + 10), some (b + 11), some (b + 12), some (b + 13), some (b + 14), some (b + 15), some (b + 16), some (b + 17)]), .inr (0, 4, []), .inr (0, 4, []), .inr (0, 4, []), .inr (0, 4, []), .inr (0, 4, []), .inr (0, 4, []), .inr (0, 4, []), .inr (0, 4, []), .inr (0, 4, []), .inr (0, 4, []), .inr (0, 5, []), .inr (0, 5, [])])) dX8_init_12 lkX8_12' ((g_at (k := 0) hb).trans rfl) (Nat.le_of_ble_eq_true rfl) (g_lt (k := 1) hb (Nat.le_of_ble_eq_true rfl)) (fun _ => rfl) (fun _ => rfl) rfl ((g_set (k := 0) hb).trans rfl) ?_
  refine e_aload_n dX8_init_15 rfl 0 rfl ?_
  refine e_new (ci := 5) (i := (b + 20)) (sl := [some none, some none, none]) (T' := (T0 ++ [.inl (8, [some (some (b + 1)), some none, some none, some none]), .inl (3, [none, none, none, none, some (some (b + 2)), some (some (b + 3)), some (some (b + 4)), some (some (b + 5)), some (some (b + 6)), some (some (b + 7)), some (some (b + 18)), some (some (b + 19))]), .inr (0, 10, []), .inr (0, 10, []), .inr (0, 10, []), .inr (0, 10, []), .inr (0, 10, []), .inr (3, 10, [some (b + 8), some (b + 9), some (b + 10), some (b + 11), some (b + 12), some (b + 13), some (b + 14), some (b + 15), some (b + 16), some (b + 17)]), .inr (0, 4, []), .inr (0, 4, []), .inr (0, 4, []), .inr (0, 4, []), .inr (0, 4, []), .inr (0, 4, []), .inr (0, 4, []), .inr (0, 4, []), .inr (0, 4, []), .inr (0, 4, []), .inr (0, 5, []), .inr (0, 5, []), .inl (5, [some none, some none, none])])) dX8_init_16 rfl iw_5 tyX5_ok klX8_18 ki_X5 kz_X5 (by decide) df_5 ((g_len hb).trans rfl) (by omega) ((List.append_assoc _ _ _).trans rfl) (Nat.le_of_ble_eq_true rfl) (Nat.le_of_ble_eq_true rfl) (g_c (g_ok (k := 0) hb (Nat.le_of_ble_eq_true rfl)) g_n) (g_c0 (g_ok (k := 0) hb (Nat.le_of_ble_eq_true rfl)) g_n0) ?_
  rw [show srow (zr σ b 20) (b + 20) (fun _ => 0) = zr (zr σ b 20) (b + 20) 1 from zr_1]
  refine e_dup dX8_init_19 rfl ?_
  refine e_iconst (v := 5) dX8_init_20 rfl ?_
  refine e_callI dX8_init_21 cvX8_20 rfl (k_Pairs5 (T0 := T0 ++ [.inl (8, [some (some (b + 1)), some none, some none, some none]), .inl (3, [none, none, none, none, some (some (b + 2)), some (some (b + 3)), some (some (b + 4)), some (some (b + 5)), some (some (b + 6)), some (some (b + 7)), some (some (b + 18)), some (some (b + 19))]), .inr (0, 10, []), .inr (0, 10, []), .inr (0, 10, []), .inr (0, 10, []), .inr (0, 10, []), .inr (3, 10, [some (b + 8), some (b + 9), some (b + 10), some (b + 11), some (b + 12), some (b + 13), some (b + 14), some (b + 15), some (b + 16), some (b + 17)]), .inr (0, 4, []), .inr (0, 4, []), .inr (0, 4, []), .inr (0, 4, []), .inr (0, 4, []), .inr (0, 4, []), .inr (0, 4, []), .inr (0, 4, []), .inr (0, 4, []), .inr (0, 4, []), .inr (0, 5, []), .inr (0, 5, [])]) (b := (b + 20)) ((g_len hb).trans rfl) (by omega) (List.append_assoc _ _ _) (T2 := (T0 ++ [.inl (8, [some (some (b + 1)), some none, some none, some none]), .inl (3, [none, none, none, none, some (some (b + 2)), some (some (b + 3)), some (some (b + 4)), some (some (b + 5)), some (some (b + 6)), some (some (b + 7)), some (some (b + 18)), some (some (b + 19))]), .inr (0, 10, []), .inr (0, 10, []), .inr (0, 10, []), .inr (0, 10, []), .inr (0, 10, []), .inr (3, 10, [some (b + 8), some (b + 9), some (b + 10), some (b + 11), some (b + 12), some (b + 13), some (b + 14), some (b + 15), some (b + 16), some (b + 17)]), .inr (0, 4, []), .inr (0, 4, []), .inr (0, 4, []), .inr (0, 4, []), .inr (0, 4, []), .inr (0, 4, []), .inr (0, 4, []), .inr (0, 4, []), .inr (0, 4, []), .inr (0, 4, []), .inr (0, 5, []), .inr (0, 5, []), .inl (5, [some (some (b + 21)), some (some (b + 22)), none]), .inr (0, 5, []), .inr (0, 5, [])])) ((List.append_assoc _ _ _).trans rfl)) (Nat.le_of_ble_eq_true rfl) (Nat.le_of_ble_eq_true rfl) (Nat.le_of_ble_eq_true rfl) rfl (Nat.le_of_ble_eq_true rfl) (g_c (g_ok (k := 0) hb (Nat.le_of_ble_eq_true rfl)) g_n) (g_c0 (g_ok (k := 20) hb (Nat.le_of_ble_eq_true rfl)) (g_c0 (g_ok (k := 0) hb (Nat.le_of_ble_eq_true rfl)) g_n0)) ?_
  intro T9 σ9 μ9 q
  obtain ⟨rfl, rfl, rfl⟩ := q
  rw [show zr (zr σ b 20) (b + 20) 3 = zr σ b 23 from zr_z]
  refine e_putR (T' := (T0 ++ [.inl (8, [some (some (b + 1)), some (some (b + 20)), some none, some none]), .inl (3, [none, none, none, none, some (some (b + 2)), some (some (b + 3)), some (some (b + 4)), some (some (b + 5)), some (some (b + 6)), some (some (b + 7)), some (some (b + 18)), some (some (b + 19))]), .inr (0, 10, []), .inr (0, 10, []), .inr (0, 10, []), .inr (0, 10, []), .inr (0, 10, []), .inr (3, 10, [some (b + 8), some (b + 9), some (b + 10), some (b + 11), some (b + 12), some (b + 13), some (b + 14), some (b + 15), some (b + 16), some (b + 17)]), .inr (0, 4, []), .inr (0, 4, []), .inr (0, 4, []), .inr (0, 4, []), .inr (0, 4, []), .inr (0, 4, []), .inr (0, 4, []), .inr (0, 4, []), .inr (0, 4, []), .inr (0, 4, []), .inr (0, 5, []), .inr (0, 5, []), .inl (5, [some (some (b + 21)), some (some (b + 22)), none]), .inr (0, 5, []), .inr (0, 5, [])])) dX8_init_24 lkX8_23' ((g_at (k := 0) hb).trans rfl) (Nat.le_of_ble_eq_true rfl) (g_lt (k := 20) hb (Nat.le_of_ble_eq_true rfl)) (fun _ => rfl) (fun _ => rfl) rfl ((g_set (k := 0) hb).trans rfl) ?_
  refine e_aload_n dX8_init_27 rfl 0 rfl ?_
  refine e_new (ci := 5) (i := (b + 23)) (sl := [some none, some none, none]) (T' := (T0 ++ [.inl (8, [some (some (b + 1)), some (some (b + 20)), some none, some none]), .inl (3, [none, none, none, none, some (some (b + 2)), some (some (b + 3)), some (some (b + 4)), some (some (b + 5)), some (some (b + 6)), some (some (b + 7)), some (some (b + 18)), some (some (b + 19))]), .inr (0, 10, []), .inr (0, 10, []), .inr (0, 10, []), .inr (0, 10, []), .inr (0, 10, []), .inr (3, 10, [some (b + 8), some (b + 9), some (b + 10), some (b + 11), some (b + 12), some (b + 13), some (b + 14), some (b + 15), some (b + 16), some (b + 17)]), .inr (0, 4, []), .inr (0, 4, []), .inr (0, 4, []), .inr (0, 4, []), .inr (0, 4, []), .inr (0, 4, []), .inr (0, 4, []), .inr (0, 4, []), .inr (0, 4, []), .inr (0, 4, []), .inr (0, 5, []), .inr (0, 5, []), .inl (5, [some (some (b + 21)), some (some (b + 22)), none]), .inr (0, 5, []), .inr (0, 5, []), .inl (5, [some none, some none, none])])) dX8_init_28 rfl iw_5 tyX5_ok klX8_18 ki_X5 kz_X5 (by decide) df_5 ((g_len hb).trans rfl) (by omega) ((List.append_assoc _ _ _).trans rfl) (Nat.le_of_ble_eq_true rfl) (Nat.le_of_ble_eq_true rfl) (g_c (g_ok (k := 0) hb (Nat.le_of_ble_eq_true rfl)) g_n) (g_c0 (g_ok (k := 0) hb (Nat.le_of_ble_eq_true rfl)) g_n0) ?_
  rw [show srow (zr σ b 23) (b + 23) (fun _ => 0) = zr (zr σ b 23) (b + 23) 1 from zr_1]
  refine e_dup dX8_init_31 rfl ?_
  refine e_bipush (v := 10) dX8_init_32 rfl ?_
  refine e_callI dX8_init_34 cvX8_20 rfl (k_Pairs10 (T0 := T0 ++ [.inl (8, [some (some (b + 1)), some (some (b + 20)), some none, some none]), .inl (3, [none, none, none, none, some (some (b + 2)), some (some (b + 3)), some (some (b + 4)), some (some (b + 5)), some (some (b + 6)), some (some (b + 7)), some (some (b + 18)), some (some (b + 19))]), .inr (0, 10, []), .inr (0, 10, []), .inr (0, 10, []), .inr (0, 10, []), .inr (0, 10, []), .inr (3, 10, [some (b + 8), some (b + 9), some (b + 10), some (b + 11), some (b + 12), some (b + 13), some (b + 14), some (b + 15), some (b + 16), some (b + 17)]), .inr (0, 4, []), .inr (0, 4, []), .inr (0, 4, []), .inr (0, 4, []), .inr (0, 4, []), .inr (0, 4, []), .inr (0, 4, []), .inr (0, 4, []), .inr (0, 4, []), .inr (0, 4, []), .inr (0, 5, []), .inr (0, 5, []), .inl (5, [some (some (b + 21)), some (some (b + 22)), none]), .inr (0, 5, []), .inr (0, 5, [])]) (b := (b + 23)) ((g_len hb).trans rfl) (by omega) (List.append_assoc _ _ _) (T2 := (T0 ++ [.inl (8, [some (some (b + 1)), some (some (b + 20)), some none, some none]), .inl (3, [none, none, none, none, some (some (b + 2)), some (some (b + 3)), some (some (b + 4)), some (some (b + 5)), some (some (b + 6)), some (some (b + 7)), some (some (b + 18)), some (some (b + 19))]), .inr (0, 10, []), .inr (0, 10, []), .inr (0, 10, []), .inr (0, 10, []), .inr (0, 10, []), .inr (3, 10, [some (b + 8), some (b + 9), some (b + 10), some (b + 11), some (b + 12), some (b + 13), some (b + 14), some (b + 15), some (b + 16), some (b + 17)]), .inr (0, 4, []), .inr (0, 4, []), .inr (0, 4, []), .inr (0, 4, []), .inr (0, 4, []), .inr (0, 4, []), .inr (0, 4, []), .inr (0, 4, []), .inr (0, 4, []), .inr (0, 4, []), .inr (0, 5, []), .inr (0, 5, []), .inl (5, [some (some (b + 21)), some (some (b + 22)), none]), .inr (0, 5, []), .inr (0, 5, []), .inl (5, [some (some (b + 24)), some (some (b + 25)), none]), .inr (0, 10, []), .inr (0, 10, [])])) ((List.append_assoc _ _ _).trans rfl)) (Nat.le_of_ble_eq_true rfl) (Nat.le_of_ble_eq_true rfl) (Nat.le_of_ble_eq_true rfl) rfl (Nat.le_of_ble_eq_true rfl) (g_c (g_ok (k := 0) hb (Nat.le_of_ble_eq_true rfl)) g_n) (g_c0 (g_ok (k := 23) hb (Nat.le_of_ble_eq_true rfl)) (g_c0 (g_ok (k := 0) hb (Nat.le_of_ble_eq_true rfl)) g_n0)) ?_
  intro T9 σ9 μ9 q
  obtain ⟨rfl, rfl, rfl⟩ := q
  rw [show zr (zr σ b 23) (b + 23) 3 = zr σ b 26 from zr_z]
  refine e_putR (T' := (T0 ++ [.inl (8, [some (some (b + 1)), some (some (b + 20)), some (some (b + 23)), some none]), .inl (3, [none, none, none, none, some (some (b + 2)), some (some (b + 3)), some (some (b + 4)), some (some (b + 5)), some (some (b + 6)), some (some (b + 7)), some (some (b + 18)), some (some (b + 19))]), .inr (0, 10, []), .inr (0, 10, []), .inr (0, 10, []), .inr (0, 10, []), .inr (0, 10, []), .inr (3, 10, [some (b + 8), some (b + 9), some (b + 10), some (b + 11), some (b + 12), some (b + 13), some (b + 14), some (b + 15), some (b + 16), some (b + 17)]), .inr (0, 4, []), .inr (0, 4, []), .inr (0, 4, []), .inr (0, 4, []), .inr (0, 4, []), .inr (0, 4, []), .inr (0, 4, []), .inr (0, 4, []), .inr (0, 4, []), .inr (0, 4, []), .inr (0, 5, []), .inr (0, 5, []), .inl (5, [some (some (b + 21)), some (some (b + 22)), none]), .inr (0, 5, []), .inr (0, 5, []), .inl (5, [some (some (b + 24)), some (some (b + 25)), none]), .inr (0, 10, []), .inr (0, 10, [])])) dX8_init_37 lkX8_27' ((g_at (k := 0) hb).trans rfl) (Nat.le_of_ble_eq_true rfl) (g_lt (k := 23) hb (Nat.le_of_ble_eq_true rfl)) (fun _ => rfl) (fun _ => rfl) rfl ((g_set (k := 0) hb).trans rfl) ?_
  refine e_aload_n dX8_init_40 rfl 0 rfl ?_
  refine e_new (ci := 5) (i := (b + 26)) (sl := [some none, some none, none]) (T' := (T0 ++ [.inl (8, [some (some (b + 1)), some (some (b + 20)), some (some (b + 23)), some none]), .inl (3, [none, none, none, none, some (some (b + 2)), some (some (b + 3)), some (some (b + 4)), some (some (b + 5)), some (some (b + 6)), some (some (b + 7)), some (some (b + 18)), some (some (b + 19))]), .inr (0, 10, []), .inr (0, 10, []), .inr (0, 10, []), .inr (0, 10, []), .inr (0, 10, []), .inr (3, 10, [some (b + 8), some (b + 9), some (b + 10), some (b + 11), some (b + 12), some (b + 13), some (b + 14), some (b + 15), some (b + 16), some (b + 17)]), .inr (0, 4, []), .inr (0, 4, []), .inr (0, 4, []), .inr (0, 4, []), .inr (0, 4, []), .inr (0, 4, []), .inr (0, 4, []), .inr (0, 4, []), .inr (0, 4, []), .inr (0, 4, []), .inr (0, 5, []), .inr (0, 5, []), .inl (5, [some (some (b + 21)), some (some (b + 22)), none]), .inr (0, 5, []), .inr (0, 5, []), .inl (5, [some (some (b + 24)), some (some (b + 25)), none]), .inr (0, 10, []), .inr (0, 10, []), .inl (5, [some none, some none, none])])) dX8_init_41 rfl iw_5 tyX5_ok klX8_18 ki_X5 kz_X5 (by decide) df_5 ((g_len hb).trans rfl) (by omega) ((List.append_assoc _ _ _).trans rfl) (Nat.le_of_ble_eq_true rfl) (Nat.le_of_ble_eq_true rfl) (g_c (g_ok (k := 0) hb (Nat.le_of_ble_eq_true rfl)) g_n) (g_c0 (g_ok (k := 0) hb (Nat.le_of_ble_eq_true rfl)) g_n0) ?_
  rw [show srow (zr σ b 26) (b + 26) (fun _ => 0) = zr (zr σ b 26) (b + 26) 1 from zr_1]
  refine e_dup dX8_init_44 rfl ?_
  refine e_bipush (v := 8) dX8_init_45 rfl ?_
  refine e_callI dX8_init_47 cvX8_20 rfl (k_Pairs8 (T0 := T0 ++ [.inl (8, [some (some (b + 1)), some (some (b + 20)), some (some (b + 23)), some none]), .inl (3, [none, none, none, none, some (some (b + 2)), some (some (b + 3)), some (some (b + 4)), some (some (b + 5)), some (some (b + 6)), some (some (b + 7)), some (some (b + 18)), some (some (b + 19))]), .inr (0, 10, []), .inr (0, 10, []), .inr (0, 10, []), .inr (0, 10, []), .inr (0, 10, []), .inr (3, 10, [some (b + 8), some (b + 9), some (b + 10), some (b + 11), some (b + 12), some (b + 13), some (b + 14), some (b + 15), some (b + 16), some (b + 17)]), .inr (0, 4, []), .inr (0, 4, []), .inr (0, 4, []), .inr (0, 4, []), .inr (0, 4, []), .inr (0, 4, []), .inr (0, 4, []), .inr (0, 4, []), .inr (0, 4, []), .inr (0, 4, []), .inr (0, 5, []), .inr (0, 5, []), .inl (5, [some (some (b + 21)), some (some (b + 22)), none]), .inr (0, 5, []), .inr (0, 5, []), .inl (5, [some (some (b + 24)), some (some (b + 25)), none]), .inr (0, 10, []), .inr (0, 10, [])]) (b := (b + 26)) ((g_len hb).trans rfl) (by omega) (List.append_assoc _ _ _) (T2 := (T0 ++ [.inl (8, [some (some (b + 1)), some (some (b + 20)), some (some (b + 23)), some none]), .inl (3, [none, none, none, none, some (some (b + 2)), some (some (b + 3)), some (some (b + 4)), some (some (b + 5)), some (some (b + 6)), some (some (b + 7)), some (some (b + 18)), some (some (b + 19))]), .inr (0, 10, []), .inr (0, 10, []), .inr (0, 10, []), .inr (0, 10, []), .inr (0, 10, []), .inr (3, 10, [some (b + 8), some (b + 9), some (b + 10), some (b + 11), some (b + 12), some (b + 13), some (b + 14), some (b + 15), some (b + 16), some (b + 17)]), .inr (0, 4, []), .inr (0, 4, []), .inr (0, 4, []), .inr (0, 4, []), .inr (0, 4, []), .inr (0, 4, []), .inr (0, 4, []), .inr (0, 4, []), .inr (0, 4, []), .inr (0, 4, []), .inr (0, 5, []), .inr (0, 5, []), .inl (5, [some (some (b + 21)), some (some (b + 22)), none]), .inr (0, 5, []), .inr (0, 5, []), .inl (5, [some (some (b + 24)), some (some (b + 25)), none]), .inr (0, 10, []), .inr (0, 10, []), .inl (5, [some (some (b + 27)), some (some (b + 28)), none]), .inr (0, 8, []), .inr (0, 8, [])])) ((List.append_assoc _ _ _).trans rfl)) (Nat.le_of_ble_eq_true rfl) (Nat.le_of_ble_eq_true rfl) (Nat.le_of_ble_eq_true rfl) rfl (Nat.le_of_ble_eq_true rfl) (g_c (g_ok (k := 0) hb (Nat.le_of_ble_eq_true rfl)) g_n) (g_c0 (g_ok (k := 26) hb (Nat.le_of_ble_eq_true rfl)) (g_c0 (g_ok (k := 0) hb (Nat.le_of_ble_eq_true rfl)) g_n0)) ?_
  intro T9 σ9 μ9 q
  obtain ⟨rfl, rfl, rfl⟩ := q
  rw [show zr (zr σ b 26) (b + 26) 3 = zr σ b 29 from zr_z]
  refine e_putR (T' := (T0 ++ [.inl (8, [some (some (b + 1)), some (some (b + 20)), some (some (b + 23)), some (some (b + 26))]), .inl (3, [none, none, none, none, some (some (b + 2)), some (some (b + 3)), some (some (b + 4)), some (some (b + 5)), some (some (b + 6)), some (some (b + 7)), some (some (b + 18)), some (some (b + 19))]), .inr (0, 10, []), .inr (0, 10, []), .inr (0, 10, []), .inr (0, 10, []), .inr (0, 10, []), .inr (3, 10, [some (b + 8), some (b + 9), some (b + 10), some (b + 11), some (b + 12), some (b + 13), some (b + 14), some (b + 15), some (b + 16), some (b + 17)]), .inr (0, 4, []), .inr (0, 4, []), .inr (0, 4, []), .inr (0, 4, []), .inr (0, 4, []), .inr (0, 4, []), .inr (0, 4, []), .inr (0, 4, []), .inr (0, 4, []), .inr (0, 4, []), .inr (0, 5, []), .inr (0, 5, []), .inl (5, [some (some (b + 21)), some (some (b + 22)), none]), .inr (0, 5, []), .inr (0, 5, []), .inl (5, [some (some (b + 24)), some (some (b + 25)), none]), .inr (0, 10, []), .inr (0, 10, []), .inl (5, [some (some (b + 27)), some (some (b + 28)), none]), .inr (0, 8, []), .inr (0, 8, [])])) dX8_init_50 lkX8_30' ((g_at (k := 0) hb).trans rfl) (Nat.le_of_ble_eq_true rfl) (g_lt (k := 26) hb (Nat.le_of_ble_eq_true rfl)) (fun _ => rfl) (fun _ => rfl) rfl ((g_set (k := 0) hb).trans rfl) ?_
  exact e_vret dX8_init_53 rfl (Nat.le_of_ble_eq_true rfl) (Nat.le_of_ble_eq_true rfl) ⟨rfl, rfl, rfl, rfl⟩

set_option maxRecDepth 100000 in
theorem k_Chooser {T0 : List ex_T} {b : Nat} (hb : T0.length = b) (hB : b ≤ 700) {nn : Nat} (hn : nn < b) {T1 T2 : List ex_T} (hT1 : T0 ++ [.inl (0, [some none, some none, some none, some none])] = T1) (hT2 : T0 ++ [.inl (0, [some (some nn), some (some (b + 1)), some (some (b + 3)), some (some (b + 5))]), .inl (7, [some (some (b + 2)), none, some (some nn)]), .inr (0, 6, []), .inl (7, [some (some (b + 4)), none, some (some nn)]), .inr (0, 6, []), .inr (0, 16, [])] = T2) {σ : ex_S} {μ : ex_L} : Cl 3 5 34 yX0_init cX0_init 2 none [.ref b, .ref nn] T1 (zr σ b 1) μ (fun v T' σ' μ' => v = none ∧ T' = T2 ∧ σ' = zr σ b 6 ∧ μ' = μ) := by
  subst hT1 hT2
  refine Cl_of (by decide +kernel) (Nat.le_of_ble_eq_true rfl) ?_
  show Ev RX0 cX0_init 2 3 5 34 "<init>" none ev_ext _ _ 0 0 0 [(0, .ref b), (1, .ref nn)] [] _ _ μ
  refine e_aload_n dX0_init_0 rfl 0 rfl ?_
  refine e_objI dX0_init_1 koX0_1 (Nat.le_of_ble_eq_true rfl) (Nat.le_of_ble_eq_true rfl) ?_
  refine e_aload_n dX0_init_4 rfl 0 rfl ?_
  refine e_aload_n dX0_init_5 rfl 1 rfl ?_
  refine e_putR (T' := (T0 ++ [.inl (0, [some (some nn), some none, some none, some none])])) dX0_init_6 lkX0_7' ((g_at (k := 0) hb).trans rfl) (Nat.le_of_ble_eq_true rfl) (g_ltp hb hn) (fun _ => rfl) (fun _ => rfl) rfl ((g_set (k := 0) hb).trans rfl) ?_
  refine e_aload_n dX0_init_9 rfl 0 rfl ?_
  refine e_new (ci := 7) (i := (b + 1)) (sl := [some none, none, some none]) (T' := (T0 ++ [.inl (0, [some (some nn), some none, some none, some none]), .inl (7, [some none, none, some none])])) dX0_init_10 rfl iw_7 tyX7_ok klX0_13 ki_X7 kz_X7 (by decide) df_7 ((g_len hb).trans rfl) (by omega) ((List.append_assoc _ _ _).trans rfl) (Nat.le_of_ble_eq_true rfl) (Nat.le_of_ble_eq_true rfl) (g_c (g_ok (k := 0) hb (Nat.le_of_ble_eq_true rfl)) (g_c (g_okp hb hn) g_n)) (g_c0 (g_ok (k := 0) hb (Nat.le_of_ble_eq_true rfl)) g_n0) ?_
  rw [show srow (zr σ b 1) (b + 1) (fun _ => 0) = zr (zr σ b 1) (b + 1) 1 from zr_1]
  refine e_dup dX0_init_13 rfl ?_
  refine e_aload_n dX0_init_14 rfl 1 rfl ?_
  refine e_callI dX0_init_15 cvX0_15 rfl (k_Span (T0 := T0 ++ [.inl (0, [some (some nn), some none, some none, some none])]) (b := (b + 1)) ((g_len hb).trans rfl) (by omega) (Nat.lt_of_lt_of_le hn (Nat.le_add_right _ _)) (List.append_assoc _ _ _) (T2 := (T0 ++ [.inl (0, [some (some nn), some none, some none, some none]), .inl (7, [some (some (b + 2)), none, some (some nn)]), .inr (0, 6, [])])) ((List.append_assoc _ _ _).trans rfl)) (Nat.le_of_ble_eq_true rfl) (Nat.le_of_ble_eq_true rfl) (Nat.le_of_ble_eq_true rfl) rfl (Nat.le_of_ble_eq_true rfl) (g_c (g_ok (k := 0) hb (Nat.le_of_ble_eq_true rfl)) (g_c (g_okp hb hn) g_n)) (g_c0 (g_ok (k := 1) hb (Nat.le_of_ble_eq_true rfl)) (g_c0 (g_ok (k := 0) hb (Nat.le_of_ble_eq_true rfl)) g_n0)) ?_
  intro T9 σ9 μ9 q
  obtain ⟨rfl, rfl, rfl⟩ := q
  rw [show zr (zr σ b 1) (b + 1) 2 = zr σ b 3 from zr_z]
  refine e_putR (T' := (T0 ++ [.inl (0, [some (some nn), some (some (b + 1)), some none, some none]), .inl (7, [some (some (b + 2)), none, some (some nn)]), .inr (0, 6, [])])) dX0_init_18 lkX0_18' ((g_at (k := 0) hb).trans rfl) (Nat.le_of_ble_eq_true rfl) (g_lt (k := 1) hb (Nat.le_of_ble_eq_true rfl)) (fun _ => rfl) (fun _ => rfl) rfl ((g_set (k := 0) hb).trans rfl) ?_
  refine e_aload_n dX0_init_21 rfl 0 rfl ?_
  refine e_new (ci := 7) (i := (b + 3)) (sl := [some none, none, some none]) (T' := (T0 ++ [.inl (0, [some (some nn), some (some (b + 1)), some none, some none]), .inl (7, [some (some (b + 2)), none, some (some nn)]), .inr (0, 6, []), .inl (7, [some none, none, some none])])) dX0_init_22 rfl iw_7 tyX7_ok klX0_13 ki_X7 kz_X7 (by decide) df_7 ((g_len hb).trans rfl) (by omega) ((List.append_assoc _ _ _).trans rfl) (Nat.le_of_ble_eq_true rfl) (Nat.le_of_ble_eq_true rfl) (g_c (g_ok (k := 0) hb (Nat.le_of_ble_eq_true rfl)) (g_c (g_okp hb hn) g_n)) (g_c0 (g_ok (k := 0) hb (Nat.le_of_ble_eq_true rfl)) g_n0) ?_
  rw [show srow (zr σ b 3) (b + 3) (fun _ => 0) = zr (zr σ b 3) (b + 3) 1 from zr_1]
  refine e_dup dX0_init_25 rfl ?_
  refine e_aload_n dX0_init_26 rfl 1 rfl ?_
  refine e_callI dX0_init_27 cvX0_15 rfl (k_Span (T0 := T0 ++ [.inl (0, [some (some nn), some (some (b + 1)), some none, some none]), .inl (7, [some (some (b + 2)), none, some (some nn)]), .inr (0, 6, [])]) (b := (b + 3)) ((g_len hb).trans rfl) (by omega) (Nat.lt_of_lt_of_le hn (Nat.le_add_right _ _)) (List.append_assoc _ _ _) (T2 := (T0 ++ [.inl (0, [some (some nn), some (some (b + 1)), some none, some none]), .inl (7, [some (some (b + 2)), none, some (some nn)]), .inr (0, 6, []), .inl (7, [some (some (b + 4)), none, some (some nn)]), .inr (0, 6, [])])) ((List.append_assoc _ _ _).trans rfl)) (Nat.le_of_ble_eq_true rfl) (Nat.le_of_ble_eq_true rfl) (Nat.le_of_ble_eq_true rfl) rfl (Nat.le_of_ble_eq_true rfl) (g_c (g_ok (k := 0) hb (Nat.le_of_ble_eq_true rfl)) (g_c (g_okp hb hn) g_n)) (g_c0 (g_ok (k := 3) hb (Nat.le_of_ble_eq_true rfl)) (g_c0 (g_ok (k := 0) hb (Nat.le_of_ble_eq_true rfl)) g_n0)) ?_
  intro T9 σ9 μ9 q
  obtain ⟨rfl, rfl, rfl⟩ := q
  rw [show zr (zr σ b 3) (b + 3) 2 = zr σ b 5 from zr_z]
  refine e_putR (T' := (T0 ++ [.inl (0, [some (some nn), some (some (b + 1)), some (some (b + 3)), some none]), .inl (7, [some (some (b + 2)), none, some (some nn)]), .inr (0, 6, []), .inl (7, [some (some (b + 4)), none, some (some nn)]), .inr (0, 6, [])])) dX0_init_30 lkX0_22' ((g_at (k := 0) hb).trans rfl) (Nat.le_of_ble_eq_true rfl) (g_lt (k := 3) hb (Nat.le_of_ble_eq_true rfl)) (fun _ => rfl) (fun _ => rfl) rfl ((g_set (k := 0) hb).trans rfl) ?_
  refine e_aload_n dX0_init_33 rfl 0 rfl ?_
  refine e_bipush (v := 16) dX0_init_34 rfl ?_
  refine e_newAi (i := (b + 5)) (N := 16) (T' := (T0 ++ [.inl (0, [some (some nn), some (some (b + 1)), some (some (b + 3)), some none]), .inl (7, [some (some (b + 2)), none, some (some nn)]), .inr (0, 6, []), .inl (7, [some (some (b + 4)), none, some (some nn)]), .inr (0, 6, []), .inr (0, 16, [])])) dX0_init_36 (by decide) (by decide) (by decide) ((g_len hb).trans rfl) (by omega) ((List.append_assoc _ _ _).trans rfl) (Nat.le_of_ble_eq_true rfl) (Nat.le_of_ble_eq_true rfl) (g_c (g_ok (k := 0) hb (Nat.le_of_ble_eq_true rfl)) (g_c (g_okp hb hn) g_n)) (g_c0 (g_ok (k := 0) hb (Nat.le_of_ble_eq_true rfl)) g_n0) ?_
  rw [show srow (zr σ b 5) (b + 5) (fun _ => 0) = zr σ b 6 from zr_s]
  refine e_putR (T' := (T0 ++ [.inl (0, [some (some nn), some (some (b + 1)), some (some (b + 3)), some (some (b + 5))]), .inl (7, [some (some (b + 2)), none, some (some nn)]), .inr (0, 6, []), .inl (7, [some (some (b + 4)), none, some (some nn)]), .inr (0, 6, []), .inr (0, 16, [])])) dX0_init_38 lkX0_25' ((g_at (k := 0) hb).trans rfl) (Nat.le_of_ble_eq_true rfl) (g_lt (k := 5) hb (Nat.le_of_ble_eq_true rfl)) (fun _ => rfl) (fun _ => rfl) rfl ((g_set (k := 0) hb).trans rfl) ?_
  exact e_vret dX0_init_41 rfl (Nat.le_of_ble_eq_true rfl) (Nat.le_of_ble_eq_true rfl) ⟨rfl, rfl, rfl, rfl⟩

