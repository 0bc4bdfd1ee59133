/-! THE LAW: image and undo; one command of the script -/
theorem wi_im1 {p : Nat} {S : ns_T} {z : Nat} {X : Nat → Nat} {t : tp_T} {σ σ' : ex_S} {μ μ' : ex_L} (hV : VS S) (h : WC σ μ p S z X t) (r : WR σ μ p S z X t) (hq : StC σ' 61 S ∧ σ' 0 6 = 1 ∧ (∀ i, i ≠ 0 → (i < 61 ∨ 90 ≤ i) → σ' i = σ i) ∧ μ' = μ) : WC σ' μ' p S z X t ∧ WR σ' μ' p S z X t := by
  obtain ⟨f1, n1, a1, a2, a3, k1, s1, o1, x1, t1⟩ := h
  obtain ⟨-, -, g, rfl⟩ := hq
  refine ⟨⟨f1.to (g 1 (by omega) (by omega)) (g 2 (by omega) (by omega)), n1.to hV (fun i a b => g i (by omega) (by omega)), a1.to (fun i a b => g i (by omega) (by omega)), a2.to (fun i a b => g i (by omega) (by omega)), a3.to (fun i a b => g i (by omega) (by omega)), k1.to (g 6 (by omega) (by omega)), s1.to (g 28 (by omega) (by omega)) (g 29 (by omega) (by omega)), (congrFun (g 31 (by omega) (by omega)) 0).trans o1, x1.to (g 3 (by omega) (by omega)) (g 4 (by omega) (by omega)), t1.to (g 118 (by omega) (by omega)) (g 119 (by omega) (by omega)) (fun _ _ _ => rfl)⟩, ?_⟩
  obtain ⟨f2, n2, b1, b2, b3, x2, t2⟩ := r
  exact ⟨f2.to2 (fun i a b => g i (by omega) (by omega)) (fun k a => congrFun (g 127 (by omega) (by omega)) k), n2.to2 (fun i a b => g i (by omega) (by omega)) (fun k a b => congrFun (g 127 (by omega) (by omega)) k), b1.to (congrFun (g 127 (by omega) (by omega)) 22) (g 142 (by omega) (by omega)) (g 143 (by omega) (by omega)), b2.to (congrFun (g 127 (by omega) (by omega)) 25) (g 144 (by omega) (by omega)) (g 145 (by omega) (by omega)), b3.to (congrFun (g 127 (by omega) (by omega)) 28) (g 146 (by omega) (by omega)) (g 147 (by omega) (by omega)), x2.to (congrFun (g 127 (by omega) (by omega)) 17) (g 140 (by omega) (by omega)), t2.to (g 151 (by omega) (by omega)) (g 152 (by omega) (by omega)) rfl⟩
theorem wi_im2 {p : Nat} {S : ns_T} {z : Nat} {X : Nat → Nat} {t : tp_T} {σ σ' : ex_S} {μ μ' : ex_L} (hV : VS S) (hU : PSV S) (h : WC σ μ p S z X t) (r : WR σ μ p S z X t) (c1 : StC σ 61 S) (c2 : σ 0 6 = 1) (hq : (∀ q, q < 202 → σ' 148 q = wim σ q) ∧ σ' 127 31 = 1 ∧ (∀ i, i ≠ 127 → i ≠ 148 → σ' i = σ i) ∧ (∀ k, k ≠ 31 → σ' 127 k = σ 127 k) ∧ μ' = μ) : WC σ' μ' p S z X t ∧ WR σ' μ' p S z X t ∧ WI σ' S := by
  obtain ⟨f1, n1, a1, a2, a3, k1, s1, o1, x1, t1⟩ := h
  obtain ⟨w1, w2, g, k, rfl⟩ := hq
  obtain ⟨f2, n2, b1, b2, b3, x2, t2⟩ := r
  refine ⟨⟨f1.to (g 1 (by omega) (by omega)) (g 2 (by omega) (by omega)), n1.to hV (fun i a b => g i (by omega) (by omega)), a1.to (fun i a b => g i (by omega) (by omega)), a2.to (fun i a b => g i (by omega) (by omega)), a3.to (fun i a b => g i (by omega) (by omega)), k1.to (g 6 (by omega) (by omega)), s1.to (g 28 (by omega) (by omega)) (g 29 (by omega) (by omega)), (congrFun (g 31 (by omega) (by omega)) 0).trans o1, x1.to (g 3 (by omega) (by omega)) (g 4 (by omega) (by omega)), t1.to (g 118 (by omega) (by omega)) (g 119 (by omega) (by omega)) (fun _ _ _ => rfl)⟩, ?_, ?_⟩
  · exact ⟨f2.to2 (fun i a b => g i (by omega) (by omega)) (fun j a => k j (by omega)), n2.to2 (fun i a b => g i (by omega) (by omega)) (fun j a b => k j (by omega)), b1.to (k 22 (by omega)) (g 142 (by omega) (by omega)) (g 143 (by omega) (by omega)), b2.to (k 25 (by omega)) (g 144 (by omega) (by omega)) (g 145 (by omega) (by omega)), b3.to (k 28 (by omega)) (g 146 (by omega) (by omega)) (g 147 (by omega) (by omega)), x2.to (k 17 (by omega)) (g 140 (by omega) (by omega)), t2.to (g 151 (by omega) (by omega)) (g 152 (by omega) (by omega)) rfl⟩
  · exact Or.inr ⟨(congrFun (g 0 (by omega) (by omega)) 6).trans c2, w2, S, hV, hU, c1.to hV (fun i a b => g i (by omega) (by omega)), ⟨σ, n2, b1, b2, b3, w1⟩, Nat.le_refl _, fun _ _ => rfl⟩
theorem wi_un1 {p : Nat} {S K : ns_T} {z : Nat} {X : Nat → Nat} {t : tp_T} {σ σ' : ex_S} {μ μ' : ex_L} (h : WC σ μ p S z X t) (c1 : K 0 0 ≤ S 0 0) (c2 : ∀ j, j < K 0 0 → K 5 j = S 5 j) (hq : StC σ' 32 K ∧ (∀ i, (i < 32 ∨ 61 ≤ i) → σ' i = σ i) ∧ μ' = μ) : WC σ' μ' p K z X t ∧ HC σ σ' μ μ' := by
  obtain ⟨f1, n1, a1, a2, a3, k1, s1, o1, x1, t1⟩ := h
  obtain ⟨⟨q1, q2, q3, q4⟩, g, rfl⟩ := hq
  exact ⟨⟨f1.to (g 1 (by omega)) (g 2 (by omega)), q1, q2, q3, q4, (k1.to (g 6 (by omega))).pref c1 c2, s1.to (g 28 (by omega)) (g 29 (by omega)), (congrFun (g 31 (by omega)) 0).trans o1, x1.to (g 3 (by omega)) (g 4 (by omega)), t1.to (g 118 (by omega)) (g 119 (by omega)) (fun _ _ _ => rfl)⟩, fun i hi => g i (by omega), rfl⟩
theorem wi_un2 {p : Nat} {S K : ns_T} {z : Nat} {X : Nat → Nat} {t : tp_T} {σ σ' σk : ex_S} {μ μ' : ex_L} (hV : VS K) (hU : PSV K) (r : WR σ μ p S z X t) (m1 : NR σk K) (m2 : PH σk 22 142 K 10) (m3 : PH σk 25 144 K 13) (m4 : PH σk 28 146 K 16) (m5 : ∀ q, q < 202 → σ 148 q = wim σk q) (hq : Wfr σ σ' ∧ (∀ q, q < 202 → wim σ' q = σ 148 q) ∧ μ' = μ) : WR σ' μ' p K z X t ∧ HR σ σ' μ μ' := by
  obtain ⟨f2, n2, b1, b2, b3, x2, t2⟩ := r
  obtain ⟨⟨g, k⟩, w, rfl⟩ := hq
  have e : ∀ q, q < 202 → wim σ' q = wim σk q := fun q hq => (w q hq).trans (m5 q hq)
  exact ⟨⟨f2.to2 (fun i a b => g i (by omega)) (fun j a => k j (by omega) (by omega) (by omega) (by omega) (by omega) (by omega)), m1.wim hV e, m2.wim1 hU e, m3.wim2 hU e, m4.wim3 hU e, x2.to (k 17 (by omega) (by omega) (by omega) (by omega) (by omega) (by omega)) (g 140 (by omega)), t2.to (g 151 (by omega)) (g 152 (by omega)) rfl⟩, fun i hi => g i (by omega), fun _ _ _ => rfl, k 31 (by omega) (by omega) (by omega) (by omega) (by omega) (by omega), g 148 (by omega)⟩
theorem N3.n2 {u : Nat} {S : ns_T} {o : out_T} (h : N3 u S o) (h1 : 10 ≤ u) (h2 : u ≤ 17) (hV : VS S) : N2 S o.2 := ⟨hV.eqv (fun t k g => h.2 t k (by omega)), h.1, Nat.le_of_eq (h.2 0 0 (by omega)).symm, fun j _ => h.2 5 j (by omega)⟩
def LI (σ : ex_S) (μ : ex_L) : Prop := ∃ (p : Nat) (S : ns_T) (z : Nat) (X : Nat → Nat) (t : tp_T), gP p ∧ VS S ∧ PSV S ∧ TPV t ∧ z ≤ 100 ∧ (∀ i, i < z → X i < 128) ∧ WC σ μ p S z X t ∧ WR σ μ p S z X t ∧ WI σ S
theorem LI.mk {σ : ex_S} {μ : ex_L} {p : Nat} {S : ns_T} {z : Nat} {X : Nat → Nat} {t : tp_T} (hC : WC σ μ p S z X t) (hR : WR σ μ p S z X t) (hI : WI σ S) (hp : gP p) (hV : VS S) (hU : PSV S) (hT : TPV t) (hz : z ≤ 100) (hX : ∀ i, i < z → X i < 128) : LI σ μ := ⟨p, S, z, X, t, hp, hV, hU, hT, hz, hX, hC, hR, hI⟩
abbrev LX (xs : Nat → Int32) (L : Nat) : List (Nat × Nat × (Nat → Int32)) := [(1000, 7, ev_up), (1001, L, xs)]
abbrev LV (i : Nat) : List (Nat × Value) := [(0, .ref 1001), (1, .ref 0), (2, .ref 127), (3, .int (nI i))]
theorem lx_in {xs : Nat → Int32} {L : Nat} : (1001, L, xs) ∈ LX xs L := List.mem_cons_of_mem _ List.mem_cons_self
theorem lw_in0 {i L : Nat} (hi : i + 6 ≤ L) (hL : L ≤ 3072) : vp_in (nI i) L := i_in rfl (by omega) (by omega)
theorem lw_inc {i L : Nat} (hi : i + 6 ≤ L) (hL : L ≤ 3072) (c : Nat) (hc : c < 6) : vp_in (nI i + nI c) L := i_in (i_add i c) (by omega) (by omega)
theorem lc_self (x : Int64) : lg_cmp x x = 0 := by
  unfold lg_cmp
  simp

set_option maxRecDepth 100000 in
set_option maxHeartbeats 1000000 in
theorem lc_field {xs : Nat → Int32} {L i k n n0 mc ms : Nat} {nm : String} {rt : Option FieldType} {Rq : ev_Q} {σ : ex_S} {μ : ex_L} (hi : i + 6 ≤ L) (hL : L ≤ 3072) (hk : k ≤ mc) (hn : n ≤ ms) (W : LI σ μ) (K : ∀ (σ' : ex_S) (μ' : ex_L), LI σ' μ' → Ev RL cL_law 4 100 mc ms nm rt (LX xs L) n0 Rq k n 1166 (LV i) [] TT σ' μ') : Ev RL cL_law 4 100 mc ms nm rt (LX xs L) n0 Rq k n 176 (LV i) [] TT σ μ := by
  obtain ⟨p, S, z, X, t, hp, hV, hU, hT, hz, hX, hC, hR, hI⟩ := W
  obtain ⟨f1, n1, a1, a2, a3, k1, s1, o1, x1, t1⟩ := id hC
  refine e_aload_n dL_law_176 rfl 1 rfl ?_
  refine e_aload_n dL_law_177 rfl 0 rfl ?_
  refine e_iload_n dL_law_178 rfl 3 rfl ?_
  refine e_iconst (v := 1) dL_law_179 rfl ?_
  refine e_iadd dL_law_180 ?_
  refine e_xald (N := L) (f := xs) dL_law_181 lx_in (lw_inc hi hL 1 (by decide)) ?_
  refine e_callVi dL_law_182 cvL_13 rfl tt_0 rfl (c10_field hp hV f1 n1) (Nat.le_of_ble_eq_true rfl) hk hn rfl (Nat.le_of_ble_eq_true rfl) (fun r1 σ1 μ1 q1 => ?_)
  obtain ⟨e1, hq1⟩ := q1
  have hw := wc_field hp hV hU hC hq1
  have hR1 := hR.keep hw.2
  obtain ⟨f2, n2, b1, b2, b3, x2, t2⟩ := id hR1
  refine e_aload_n dL_law_185 rfl 2 rfl ?_
  refine e_aload_n dL_law_186 rfl 0 rfl ?_
  refine e_iload_n dL_law_187 rfl 3 rfl ?_
  refine e_iconst (v := 1) dL_law_188 rfl ?_
  refine e_iadd dL_law_189 ?_
  refine e_xald (N := L) (f := xs) dL_law_190 lx_in (lw_inc hi hL 1 (by decide)) ?_
  refine e_callVi dL_law_191 cvL_17 rfl tt_127 rfl (c11_field hp hV f2 n2) (Nat.le_of_ble_eq_true rfl) hk hn rfl (Nat.le_of_ble_eq_true rfl) (fun r2 σ2 μ2 q2 => ?_)
  obtain ⟨e2, hq2⟩ := q2
  have hv := wr_field hp hV hU hR1 hq2
  refine e_icmp_eq (t := 1166) dL_law_194 (by decide) (fun _ => ?_) (fun h => absurd (e1.trans e2.symm) h)
  exact K _ _ (LI.mk (WC.keep (N2.rf hV hU).1 hw.1 hv.2) hv.1 (hI.keep hw.2 hv.2 (N2.rf hV hU)) hq1.2.1 (N2.rf hV hU).1 (N2.rf hV hU).2.1 hT hz hX)

set_option maxRecDepth 100000 in
set_option maxHeartbeats 1000000 in
theorem lc_calc {xs : Nat → Int32} {L i k n n0 mc ms : Nat} {nm : String} {rt : Option FieldType} {Rq : ev_Q} {σ : ex_S} {μ : ex_L} (hi : i + 6 ≤ L) (hL : L ≤ 3072) (hk : k ≤ mc) (hn : n ≤ ms) (W : LI σ μ) (K : ∀ (σ' : ex_S) (μ' : ex_L), LI σ' μ' → Ev RL cL_law 4 100 mc ms nm rt (LX xs L) n0 Rq k n 1166 (LV i) [] TT σ' μ') : Ev RL cL_law 4 100 mc ms nm rt (LX xs L) n0 Rq k n 199 (LV i) [] TT σ μ := by
  obtain ⟨p, S, z, X, t, hp, hV, hU, hT, hz, hX, hC, hR, hI⟩ := W
  obtain ⟨f1, n1, a1, a2, a3, k1, s1, o1, x1, t1⟩ := id hC
  refine e_aload_n dL_law_199 rfl 1 rfl ?_
  refine e_aload_n dL_law_200 rfl 0 rfl ?_
  refine e_iload_n dL_law_201 rfl 3 rfl ?_
  refine e_iconst (v := 1) dL_law_202 rfl ?_
  refine e_iadd dL_law_203 ?_
  refine e_xald (N := L) (f := xs) dL_law_204 lx_in (lw_inc hi hL 1 (by decide)) ?_
  refine e_aload_n dL_law_205 rfl 0 rfl ?_
  refine e_iload_n dL_law_206 rfl 3 rfl ?_
  refine e_iconst (v := 2) dL_law_207 rfl ?_
  refine e_iadd dL_law_208 ?_
  refine e_xald (N := L) (f := xs) dL_law_209 lx_in (lw_inc hi hL 2 (by decide)) ?_
  refine e_aload_n dL_law_210 rfl 0 rfl ?_
  refine e_iload_n dL_law_211 rfl 3 rfl ?_
  refine e_iconst (v := 3) dL_law_212 rfl ?_
  refine e_iadd dL_law_213 ?_
  refine e_xald (N := L) (f := xs) dL_law_214 lx_in (lw_inc hi hL 3 (by decide)) ?_
  refine e_callVi dL_law_215 cvL_18 rfl tt_0 rfl (c10_calc hp f1) (Nat.le_of_ble_eq_true rfl) hk hn rfl (Nat.le_of_ble_eq_true rfl) (fun r1 σ1 μ1 q1 => ?_)
  obtain ⟨e1, hq1⟩ := q1
  have hw := wc_calc hp hV hU hC hq1
  have hR1 := hR.keep hw.2
  obtain ⟨f2, n2, b1, b2, b3, x2, t2⟩ := id hR1
  refine e_aload_n dL_law_218 rfl 2 rfl ?_
  refine e_aload_n dL_law_219 rfl 0 rfl ?_
  refine e_iload_n dL_law_220 rfl 3 rfl ?_
  refine e_iconst (v := 1) dL_law_221 rfl ?_
  refine e_iadd dL_law_222 ?_
  refine e_xald (N := L) (f := xs) dL_law_223 lx_in (lw_inc hi hL 1 (by decide)) ?_
  refine e_aload_n dL_law_224 rfl 0 rfl ?_
  refine e_iload_n dL_law_225 rfl 3 rfl ?_
  refine e_iconst (v := 2) dL_law_226 rfl ?_
  refine e_iadd dL_law_227 ?_
  refine e_xald (N := L) (f := xs) dL_law_228 lx_in (lw_inc hi hL 2 (by decide)) ?_
  refine e_aload_n dL_law_229 rfl 0 rfl ?_
  refine e_iload_n dL_law_230 rfl 3 rfl ?_
  refine e_iconst (v := 3) dL_law_231 rfl ?_
  refine e_iadd dL_law_232 ?_
  refine e_xald (N := L) (f := xs) dL_law_233 lx_in (lw_inc hi hL 3 (by decide)) ?_
  refine e_callVi dL_law_234 cvL_22 rfl tt_127 rfl (c11_calc hp f2) (Nat.le_of_ble_eq_true rfl) hk hn rfl (Nat.le_of_ble_eq_true rfl) (fun r2 σ2 μ2 q2 => ?_)
  obtain ⟨e2, hq2⟩ := q2
  have hv := wr_calc hp hV hU hR1 hq2
  refine e_icmp_eq (t := 1166) dL_law_237 (by decide) (fun _ => ?_) (fun h => absurd (e1.trans e2.symm) h)
  exact K _ _ (LI.mk (WC.keep (N2.rf hV hU).1 hw.1 hv.2) hv.1 (hI.keep hw.2 hv.2 (N2.rf hV hU)) hp (N2.rf hV hU).1 (N2.rf hV hU).2.1 hT hz hX)

set_option maxRecDepth 100000 in
set_option maxHeartbeats 1000000 in
theorem lc_data {xs : Nat → Int32} {L i k n n0 mc ms : Nat} {nm : String} {rt : Option FieldType} {Rq : ev_Q} {σ : ex_S} {μ : ex_L} (hi : i + 6 ≤ L) (hL : L ≤ 3072) (hk : k ≤ mc) (hn : n ≤ ms) (W : LI σ μ) (K : ∀ (σ' : ex_S) (μ' : ex_L), LI σ' μ' → Ev RL cL_law 4 100 mc ms nm rt (LX xs L) n0 Rq k n 1166 (LV i) [] TT σ' μ') : Ev RL cL_law 4 100 mc ms nm rt (LX xs L) n0 Rq k n 242 (LV i) [] TT σ μ := by
  obtain ⟨p, S, z, X, t, hp, hV, hU, hT, hz, hX, hC, hR, hI⟩ := W
  obtain ⟨f1, n1, a1, a2, a3, k1, s1, o1, x1, t1⟩ := id hC
  refine e_aload_n dL_law_242 rfl 1 rfl ?_
  refine e_aload_n dL_law_243 rfl 0 rfl ?_
  refine e_iload_n dL_law_244 rfl 3 rfl ?_
  refine e_iconst (v := 1) dL_law_245 rfl ?_
  refine e_iadd dL_law_246 ?_
  refine e_xald (N := L) (f := xs) dL_law_247 lx_in (lw_inc hi hL 1 (by decide)) ?_
  refine e_aload_n dL_law_248 rfl 0 rfl ?_
  refine e_iload_n dL_law_249 rfl 3 rfl ?_
  refine e_iconst (v := 2) dL_law_250 rfl ?_
  refine e_iadd dL_law_251 ?_
  refine e_xald (N := L) (f := xs) dL_law_252 lx_in (lw_inc hi hL 2 (by decide)) ?_
  refine e_callVi dL_law_253 cvL_23 rfl tt_0 rfl (c10_data hp hV f1 n1 k1 s1) (Nat.le_of_ble_eq_true rfl) hk hn rfl (Nat.le_of_ble_eq_true rfl) (fun r1 σ1 μ1 q1 => ?_)
  obtain ⟨e1, hq1⟩ := q1
  have hw := wc_data hp hV hU hC hq1
  have hR1 := hR.keep hw.2
  obtain ⟨f2, n2, b1, b2, b3, x2, t2⟩ := id hR1
  refine e_aload_n dL_law_256 rfl 2 rfl ?_
  refine e_aload_n dL_law_257 rfl 0 rfl ?_
  refine e_iload_n dL_law_258 rfl 3 rfl ?_
  refine e_iconst (v := 1) dL_law_259 rfl ?_
  refine e_iadd dL_law_260 ?_
  refine e_xald (N := L) (f := xs) dL_law_261 lx_in (lw_inc hi hL 1 (by decide)) ?_
  refine e_aload_n dL_law_262 rfl 0 rfl ?_
  refine e_iload_n dL_law_263 rfl 3 rfl ?_
  refine e_iconst (v := 2) dL_law_264 rfl ?_
  refine e_iadd dL_law_265 ?_
  refine e_xald (N := L) (f := xs) dL_law_266 lx_in (lw_inc hi hL 2 (by decide)) ?_
  refine e_callVi dL_law_267 cvL_27 rfl tt_127 rfl (c11_data hV n2) (Nat.le_of_ble_eq_true rfl) hk hn rfl (Nat.le_of_ble_eq_true rfl) (fun r2 σ2 μ2 q2 => ?_)
  obtain ⟨e2, hq2⟩ := q2
  have hv := wr_data hp hV hU hR1 hq2
  refine e_icmp_eq (t := 1166) dL_law_270 (by decide) (fun _ => ?_) (fun h => absurd (e1.trans e2.symm) h)
  exact K _ _ (LI.mk (WC.keep ((ndata_n hV).n2 hU).1 hw.1 hv.2) hv.1 (hI.keep hw.2 hv.2 ((ndata_n hV).n2 hU)) hp ((ndata_n hV).n2 hU).1 ((ndata_n hV).n2 hU).2.1 hT hz hX)

set_option maxRecDepth 100000 in
set_option maxHeartbeats 1000000 in
theorem lc_feed {xs : Nat → Int32} {L i k n n0 mc ms : Nat} {nm : String} {rt : Option FieldType} {Rq : ev_Q} {σ : ex_S} {μ : ex_L} (hi : i + 6 ≤ L) (hL : L ≤ 3072) (hk : k ≤ mc) (hn : n ≤ ms) (W : LI σ μ) (K : ∀ (σ' : ex_S) (μ' : ex_L), LI σ' μ' → Ev RL cL_law 4 100 mc ms nm rt (LX xs L) n0 Rq k n 1166 (LV i) [] TT σ' μ') : Ev RL cL_law 4 100 mc ms nm rt (LX xs L) n0 Rq k n 275 (LV i) [] TT σ μ := by
  obtain ⟨p, S, z, X, t, hp, hV, hU, hT, hz, hX, hC, hR, hI⟩ := W
  obtain ⟨f1, n1, a1, a2, a3, k1, s1, o1, x1, t1⟩ := id hC
  refine e_aload_n dL_law_275 rfl 1 rfl ?_
  refine e_aload_n dL_law_276 rfl 0 rfl ?_
  refine e_iload_n dL_law_277 rfl 3 rfl ?_
  refine e_iconst (v := 1) dL_law_278 rfl ?_
  refine e_iadd dL_law_279 ?_
  refine e_xald (N := L) (f := xs) dL_law_280 lx_in (lw_inc hi hL 1 (by decide)) ?_
  refine e_callVi dL_law_281 cvL_28 rfl tt_0 rfl (c10_feed x1 hz) (Nat.le_of_ble_eq_true rfl) hk hn rfl (Nat.le_of_ble_eq_true rfl) (fun r1 σ1 μ1 q1 => ?_)
  obtain ⟨e1, hq1⟩ := q1
  have hw := wc_feed hp hV hU hC hq1
  have hR1 := hR.keep hw.2
  obtain ⟨f2, n2, b1, b2, b3, x2, t2⟩ := id hR1
  refine e_aload_n dL_law_284 rfl 2 rfl ?_
  refine e_aload_n dL_law_285 rfl 0 rfl ?_
  refine e_iload_n dL_law_286 rfl 3 rfl ?_
  refine e_iconst (v := 1) dL_law_287 rfl ?_
  refine e_iadd dL_law_288 ?_
  refine e_xald (N := L) (f := xs) dL_law_289 lx_in (lw_inc hi hL 1 (by decide)) ?_
  refine e_callVi dL_law_290 cvL_31 rfl tt_127 rfl (c11_feed x2 hz) (Nat.le_of_ble_eq_true rfl) hk hn rfl (Nat.le_of_ble_eq_true rfl) (fun r2 σ2 μ2 q2 => ?_)
  obtain ⟨e2, hq2⟩ := q2
  have hv := wr_feed hp hV hU hR1 hq2
  refine e_icmp_eq (t := 1166) dL_law_293 (by decide) (fun _ => ?_) (fun h => absurd (e1.trans e2.symm) h)
  exact K _ _ (LI.mk (WC.keep (N2.rf hV hU).1 hw.1 hv.2) hv.1 (hI.keep hw.2 hv.2 (N2.rf hV hU)) hp (N2.rf hV hU).1 (N2.rf hV hU).2.1 hT (nfeed_n hz hX).1 (nfeed_n hz hX).2)

set_option maxRecDepth 100000 in
set_option maxHeartbeats 1000000 in
theorem lc_parity {xs : Nat → Int32} {L i k n n0 mc ms : Nat} {nm : String} {rt : Option FieldType} {Rq : ev_Q} {σ : ex_S} {μ : ex_L} (hi : i + 6 ≤ L) (hL : L ≤ 3072) (hk : k ≤ mc) (hn : n ≤ ms) (W : LI σ μ) (K : ∀ (σ' : ex_S) (μ' : ex_L), LI σ' μ' → Ev RL cL_law 4 100 mc ms nm rt (LX xs L) n0 Rq k n 1166 (LV i) [] TT σ' μ') : Ev RL cL_law 4 100 mc ms nm rt (LX xs L) n0 Rq k n 298 (LV i) [] TT σ μ := by
  obtain ⟨p, S, z, X, t, hp, hV, hU, hT, hz, hX, hC, hR, hI⟩ := W
  obtain ⟨f1, n1, a1, a2, a3, k1, s1, o1, x1, t1⟩ := id hC
  refine e_aload_n dL_law_298 rfl 1 rfl ?_
  refine e_aload_n dL_law_299 rfl 0 rfl ?_
  refine e_iload_n dL_law_300 rfl 3 rfl ?_
  refine e_iconst (v := 1) dL_law_301 rfl ?_
  refine e_iadd dL_law_302 ?_
  refine e_xald (N := L) (f := xs) dL_law_303 lx_in (lw_inc hi hL 1 (by decide)) ?_
  refine e_aload_n dL_law_304 rfl 0 rfl ?_
  refine e_iload_n dL_law_305 rfl 3 rfl ?_
  refine e_iconst (v := 2) dL_law_306 rfl ?_
  refine e_iadd dL_law_307 ?_
  refine e_xald (N := L) (f := xs) dL_law_308 lx_in (lw_inc hi hL 2 (by decide)) ?_
  refine e_callVi dL_law_309 cvL_32 rfl tt_0 rfl (c10_parity hp hV hX hz f1 n1 k1 s1 x1) (Nat.le_of_ble_eq_true rfl) hk hn rfl (Nat.le_of_ble_eq_true rfl) (fun r1 σ1 μ1 q1 => ?_)
  obtain ⟨e1, hq1⟩ := q1
  have hw := wc_parity hp hV hU hC hq1
  have hR1 := hR.keep hw.2
  obtain ⟨f2, n2, b1, b2, b3, x2, t2⟩ := id hR1
  refine e_aload_n dL_law_312 rfl 2 rfl ?_
  refine e_aload_n dL_law_313 rfl 0 rfl ?_
  refine e_iload_n dL_law_314 rfl 3 rfl ?_
  refine e_iconst (v := 1) dL_law_315 rfl ?_
  refine e_iadd dL_law_316 ?_
  refine e_xald (N := L) (f := xs) dL_law_317 lx_in (lw_inc hi hL 1 (by decide)) ?_
  refine e_aload_n dL_law_318 rfl 0 rfl ?_
  refine e_iload_n dL_law_319 rfl 3 rfl ?_
  refine e_iconst (v := 2) dL_law_320 rfl ?_
  refine e_iadd dL_law_321 ?_
  refine e_xald (N := L) (f := xs) dL_law_322 lx_in (lw_inc hi hL 2 (by decide)) ?_
  refine e_callVi dL_law_323 cvL_35 rfl tt_127 rfl (c11_parity hp hV hX hz f2 n2 x2) (Nat.le_of_ble_eq_true rfl) hk hn rfl (Nat.le_of_ble_eq_true rfl) (fun r2 σ2 μ2 q2 => ?_)
  obtain ⟨e2, hq2⟩ := q2
  have hv := wr_parity hp hV hU hR1 hq2
  refine e_icmp_eq (t := 1166) dL_law_326 (by decide) (fun _ => ?_) (fun h => absurd (e1.trans e2.symm) h)
  exact K _ _ (LI.mk (WC.keep ((nparity_n hp hV).1.n2 hU).1 hw.1 hv.2) hv.1 (hI.keep hw.2 hv.2 ((nparity_n hp hV).1.n2 hU)) hp ((nparity_n hp hV).1.n2 hU).1 ((nparity_n hp hV).1.n2 hU).2.1 hT (Nat.le_trans (nparity_n hp hV).2 hz) (fun j hj => hX j (Nat.lt_of_lt_of_le hj (nparity_n hp hV).2)))

set_option maxRecDepth 100000 in
set_option maxHeartbeats 1000000 in
theorem lc_row {xs : Nat → Int32} {L i k n n0 mc ms : Nat} {nm : String} {rt : Option FieldType} {Rq : ev_Q} {σ : ex_S} {μ : ex_L} (hi : i + 6 ≤ L) (hL : L ≤ 3072) (hk : k ≤ mc) (hn : n ≤ ms) (W : LI σ μ) (K : ∀ (σ' : ex_S) (μ' : ex_L), LI σ' μ' → Ev RL cL_law 4 100 mc ms nm rt (LX xs L) n0 Rq k n 1166 (LV i) [] TT σ' μ') : Ev RL cL_law 4 100 mc ms nm rt (LX xs L) n0 Rq k n 331 (LV i) [] TT σ μ := by
  obtain ⟨p, S, z, X, t, hp, hV, hU, hT, hz, hX, hC, hR, hI⟩ := W
  obtain ⟨f1, n1, a1, a2, a3, k1, s1, o1, x1, t1⟩ := id hC
  refine e_aload_n dL_law_331 rfl 1 rfl ?_
  refine e_aload_n dL_law_332 rfl 0 rfl ?_
  refine e_iload_n dL_law_333 rfl 3 rfl ?_
  refine e_iconst (v := 1) dL_law_334 rfl ?_
  refine e_iadd dL_law_335 ?_
  refine e_xald (N := L) (f := xs) dL_law_336 lx_in (lw_inc hi hL 1 (by decide)) ?_
  refine e_aload_n dL_law_337 rfl 0 rfl ?_
  refine e_iload_n dL_law_338 rfl 3 rfl ?_
  refine e_iconst (v := 2) dL_law_339 rfl ?_
  refine e_iadd dL_law_340 ?_
  refine e_xald (N := L) (f := xs) dL_law_341 lx_in (lw_inc hi hL 2 (by decide)) ?_
  refine e_aload_n dL_law_342 rfl 0 rfl ?_
  refine e_iload_n dL_law_343 rfl 3 rfl ?_
  refine e_iconst (v := 3) dL_law_344 rfl ?_
  refine e_iadd dL_law_345 ?_
  refine e_xald (N := L) (f := xs) dL_law_346 lx_in (lw_inc hi hL 3 (by decide)) ?_
  refine e_callVi dL_law_347 cvL_36 rfl tt_0 rfl (c10_row hV n1) (Nat.le_of_ble_eq_true rfl) hk hn rfl (Nat.le_of_ble_eq_true rfl) (fun r1 σ1 μ1 q1 => ?_)
  obtain ⟨e1, hq1⟩ := q1
  have hw := wc_row hp hV hU hC hq1
  have hR1 := hR.keep hw.2
  obtain ⟨f2, n2, b1, b2, b3, x2, t2⟩ := id hR1
  refine e_aload_n dL_law_350 rfl 2 rfl ?_
  refine e_aload_n dL_law_351 rfl 0 rfl ?_
  refine e_iload_n dL_law_352 rfl 3 rfl ?_
  refine e_iconst (v := 1) dL_law_353 rfl ?_
  refine e_iadd dL_law_354 ?_
  refine e_xald (N := L) (f := xs) dL_law_355 lx_in (lw_inc hi hL 1 (by decide)) ?_
  refine e_aload_n dL_law_356 rfl 0 rfl ?_
  refine e_iload_n dL_law_357 rfl 3 rfl ?_
  refine e_iconst (v := 2) dL_law_358 rfl ?_
  refine e_iadd dL_law_359 ?_
  refine e_xald (N := L) (f := xs) dL_law_360 lx_in (lw_inc hi hL 2 (by decide)) ?_
  refine e_aload_n dL_law_361 rfl 0 rfl ?_
  refine e_iload_n dL_law_362 rfl 3 rfl ?_
  refine e_iconst (v := 3) dL_law_363 rfl ?_
  refine e_iadd dL_law_364 ?_
  refine e_xald (N := L) (f := xs) dL_law_365 lx_in (lw_inc hi hL 3 (by decide)) ?_
  refine e_callVi dL_law_366 cvL_39 rfl tt_127 rfl (c11_row hV n2) (Nat.le_of_ble_eq_true rfl) hk hn rfl (Nat.le_of_ble_eq_true rfl) (fun r2 σ2 μ2 q2 => ?_)
  obtain ⟨e2, hq2⟩ := q2
  have hv := wr_row hp hV hU hR1 hq2
  refine e_icmp_eq (t := 1166) dL_law_369 (by decide) (fun _ => ?_) (fun h => absurd (e1.trans e2.symm) h)
  exact K _ _ (LI.mk (WC.keep ((nrow_n hV).n2 hU).1 hw.1 hv.2) hv.1 (hI.keep hw.2 hv.2 ((nrow_n hV).n2 hU)) hp ((nrow_n hV).n2 hU).1 ((nrow_n hV).n2 hU).2.1 hT hz hX)

set_option maxRecDepth 100000 in
set_option maxHeartbeats 1000000 in
theorem lc_of {xs : Nat → Int32} {L i k n n0 mc ms : Nat} {nm : String} {rt : Option FieldType} {Rq : ev_Q} {σ : ex_S} {μ : ex_L} (hi : i + 6 ≤ L) (hL : L ≤ 3072) (hk : k ≤ mc) (hn : n ≤ ms) (W : LI σ μ) (K : ∀ (σ' : ex_S) (μ' : ex_L), LI σ' μ' → Ev RL cL_law 4 100 mc ms nm rt (LX xs L) n0 Rq k n 1166 (LV i) [] TT σ' μ') : Ev RL cL_law 4 100 mc ms nm rt (LX xs L) n0 Rq k n 374 (LV i) [] TT σ μ := by
  obtain ⟨p, S, z, X, t, hp, hV, hU, hT, hz, hX, hC, hR, hI⟩ := W
  obtain ⟨f1, n1, a1, a2, a3, k1, s1, o1, x1, t1⟩ := id hC
  refine e_aload_n dL_law_374 rfl 1 rfl ?_
  refine e_aload_n dL_law_375 rfl 0 rfl ?_
  refine e_iload_n dL_law_376 rfl 3 rfl ?_
  refine e_iconst (v := 1) dL_law_377 rfl ?_
  refine e_iadd dL_law_378 ?_
  refine e_xald (N := L) (f := xs) dL_law_379 lx_in (lw_inc hi hL 1 (by decide)) ?_
  refine e_aload_n dL_law_380 rfl 0 rfl ?_
  refine e_iload_n dL_law_381 rfl 3 rfl ?_
  refine e_iconst (v := 2) dL_law_382 rfl ?_
  refine e_iadd dL_law_383 ?_
  refine e_xald (N := L) (f := xs) dL_law_384 lx_in (lw_inc hi hL 2 (by decide)) ?_
  refine e_callVi dL_law_385 cvL_40 rfl tt_0 rfl (c10_of hp hV f1 n1 k1 o1) (Nat.le_of_ble_eq_true rfl) hk hn rfl (Nat.le_of_ble_eq_true rfl) (fun r1 σ1 μ1 q1 => ?_)
  obtain ⟨e1, hq1⟩ := q1
  have hw := wc_of hp hV hU hC hq1
  have hR1 := hR.keep hw.2
  obtain ⟨f2, n2, b1, b2, b3, x2, t2⟩ := id hR1
  refine e_aload_n dL_law_388 rfl 2 rfl ?_
  refine e_aload_n dL_law_389 rfl 0 rfl ?_
  refine e_iload_n dL_law_390 rfl 3 rfl ?_
  refine e_iconst (v := 1) dL_law_391 rfl ?_
  refine e_iadd dL_law_392 ?_
  refine e_xald (N := L) (f := xs) dL_law_393 lx_in (lw_inc hi hL 1 (by decide)) ?_
  refine e_aload_n dL_law_394 rfl 0 rfl ?_
  refine e_iload_n dL_law_395 rfl 3 rfl ?_
  refine e_iconst (v := 2) dL_law_396 rfl ?_
  refine e_iadd dL_law_397 ?_
  refine e_xald (N := L) (f := xs) dL_law_398 lx_in (lw_inc hi hL 2 (by decide)) ?_
  refine e_callVi dL_law_399 cvL_43 rfl tt_127 rfl (c11_of hp hV f2 n2) (Nat.le_of_ble_eq_true rfl) hk hn rfl (Nat.le_of_ble_eq_true rfl) (fun r2 σ2 μ2 q2 => ?_)
  obtain ⟨e2, hq2⟩ := q2
  have hv := wr_of hp hV hU hR1 hq2
  refine e_icmp_eq (t := 1166) dL_law_402 (by decide) (fun _ => ?_) (fun h => absurd (e1.trans e2.symm) h)
  exact K _ _ (LI.mk (WC.keep (N2.rf hV hU).1 hw.1 hv.2) hv.1 (hI.keep hw.2 hv.2 (N2.rf hV hU)) hp (N2.rf hV hU).1 (N2.rf hV hU).2.1 hT hz hX)

set_option maxRecDepth 100000 in
set_option maxHeartbeats 1000000 in
theorem lc_write {xs : Nat → Int32} {L i k n n0 mc ms : Nat} {nm : String} {rt : Option FieldType} {Rq : ev_Q} {σ : ex_S} {μ : ex_L} (hi : i + 6 ≤ L) (hL : L ≤ 3072) (hk : k ≤ mc) (hn : n ≤ ms) (W : LI σ μ) (K : ∀ (σ' : ex_S) (μ' : ex_L), LI σ' μ' → Ev RL cL_law 4 100 mc ms nm rt (LX xs L) n0 Rq k n 1166 (LV i) [] TT σ' μ') : Ev RL cL_law 4 100 mc ms nm rt (LX xs L) n0 Rq k n 407 (LV i) [] TT σ μ := by
  obtain ⟨p, S, z, X, t, hp, hV, hU, hT, hz, hX, hC, hR, hI⟩ := W
  obtain ⟨f1, n1, a1, a2, a3, k1, s1, o1, x1, t1⟩ := id hC
  refine e_aload_n dL_law_407 rfl 1 rfl ?_
  refine e_aload_n dL_law_408 rfl 0 rfl ?_
  refine e_iload_n dL_law_409 rfl 3 rfl ?_
  refine e_iconst (v := 1) dL_law_410 rfl ?_
  refine e_iadd dL_law_411 ?_
  refine e_xald (N := L) (f := xs) dL_law_412 lx_in (lw_inc hi hL 1 (by decide)) ?_
  refine e_aload_n dL_law_413 rfl 0 rfl ?_
  refine e_iload_n dL_law_414 rfl 3 rfl ?_
  refine e_iconst (v := 2) dL_law_415 rfl ?_
  refine e_iadd dL_law_416 ?_
  refine e_xald (N := L) (f := xs) dL_law_417 lx_in (lw_inc hi hL 2 (by decide)) ?_
  refine e_callVi dL_law_418 cvL_44 rfl tt_0 rfl (c10_write hV n1) (Nat.le_of_ble_eq_true rfl) hk hn rfl (Nat.le_of_ble_eq_true rfl) (fun r1 σ1 μ1 q1 => ?_)
  obtain ⟨e1, hq1⟩ := q1
  have hw := wc_write hp hV hU hC hq1
  have hR1 := hR.keep hw.2
  obtain ⟨f2, n2, b1, b2, b3, x2, t2⟩ := id hR1
  refine e_aload_n dL_law_421 rfl 2 rfl ?_
  refine e_aload_n dL_law_422 rfl 0 rfl ?_
  refine e_iload_n dL_law_423 rfl 3 rfl ?_
  refine e_iconst (v := 1) dL_law_424 rfl ?_
  refine e_iadd dL_law_425 ?_
  refine e_xald (N := L) (f := xs) dL_law_426 lx_in (lw_inc hi hL 1 (by decide)) ?_
  refine e_aload_n dL_law_427 rfl 0 rfl ?_
  refine e_iload_n dL_law_428 rfl 3 rfl ?_
  refine e_iconst (v := 2) dL_law_429 rfl ?_
  refine e_iadd dL_law_430 ?_
  refine e_xald (N := L) (f := xs) dL_law_431 lx_in (lw_inc hi hL 2 (by decide)) ?_
  refine e_callVi dL_law_432 cvL_47 rfl tt_127 rfl (c11_write hV n2) (Nat.le_of_ble_eq_true rfl) hk hn rfl (Nat.le_of_ble_eq_true rfl) (fun r2 σ2 μ2 q2 => ?_)
  obtain ⟨e2, hq2⟩ := q2
  have hv := wr_write hp hV hU hR1 hq2
  refine e_icmp_eq (t := 1166) dL_law_435 (by decide) (fun _ => ?_) (fun h => absurd (e1.trans e2.symm) h)
  exact K _ _ (LI.mk (WC.keep ((nwrite_n hV).n2 hU).1 hw.1 hv.2) hv.1 (hI.keep hw.2 hv.2 ((nwrite_n hV).n2 hU)) hp ((nwrite_n hV).n2 hU).1 ((nwrite_n hV).n2 hU).2.1 hT hz hX)

set_option maxRecDepth 100000 in
set_option maxHeartbeats 1000000 in
theorem lc_lose {xs : Nat → Int32} {L i k n n0 mc ms : Nat} {nm : String} {rt : Option FieldType} {Rq : ev_Q} {σ : ex_S} {μ : ex_L} (hi : i + 6 ≤ L) (hL : L ≤ 3072) (hk : k ≤ mc) (hn : n ≤ ms) (W : LI σ μ) (K : ∀ (σ' : ex_S) (μ' : ex_L), LI σ' μ' → Ev RL cL_law 4 100 mc ms nm rt (LX xs L) n0 Rq k n 1166 (LV i) [] TT σ' μ') : Ev RL cL_law 4 100 mc ms nm rt (LX xs L) n0 Rq k n 440 (LV i) [] TT σ μ := by
  obtain ⟨p, S, z, X, t, hp, hV, hU, hT, hz, hX, hC, hR, hI⟩ := W
  obtain ⟨f1, n1, a1, a2, a3, k1, s1, o1, x1, t1⟩ := id hC
  refine e_aload_n dL_law_440 rfl 1 rfl ?_
  refine e_aload_n dL_law_441 rfl 0 rfl ?_
  refine e_iload_n dL_law_442 rfl 3 rfl ?_
  refine e_iconst (v := 1) dL_law_443 rfl ?_
  refine e_iadd dL_law_444 ?_
  refine e_xald (N := L) (f := xs) dL_law_445 lx_in (lw_inc hi hL 1 (by decide)) ?_
  refine e_callVi dL_law_446 cvL_48 rfl tt_0 rfl (c10_lose hp hV f1 n1) (Nat.le_of_ble_eq_true rfl) hk hn rfl (Nat.le_of_ble_eq_true rfl) (fun r1 σ1 μ1 q1 => ?_)
  obtain ⟨e1, hq1⟩ := q1
  have hw := wc_lose hp hV hU hC hq1
  have hR1 := hR.keep hw.2
  obtain ⟨f2, n2, b1, b2, b3, x2, t2⟩ := id hR1
  refine e_aload_n dL_law_449 rfl 2 rfl ?_
  refine e_aload_n dL_law_450 rfl 0 rfl ?_
  refine e_iload_n dL_law_451 rfl 3 rfl ?_
  refine e_iconst (v := 1) dL_law_452 rfl ?_
  refine e_iadd dL_law_453 ?_
  refine e_xald (N := L) (f := xs) dL_law_454 lx_in (lw_inc hi hL 1 (by decide)) ?_
  refine e_callVi dL_law_455 cvL_51 rfl tt_127 rfl (c11_lose hp hV f2 n2) (Nat.le_of_ble_eq_true rfl) hk hn rfl (Nat.le_of_ble_eq_true rfl) (fun r2 σ2 μ2 q2 => ?_)
  obtain ⟨e2, hq2⟩ := q2
  have hv := wr_lose hp hV hU hR1 hq2
  refine e_icmp_eq (t := 1166) dL_law_458 (by decide) (fun _ => ?_) (fun h => absurd (e1.trans e2.symm) h)
  exact K _ _ (LI.mk (WC.keep ((nlose_n hV).n2 hU).1 hw.1 hv.2) hv.1 (hI.keep hw.2 hv.2 ((nlose_n hV).n2 hU)) hp ((nlose_n hV).n2 hU).1 ((nlose_n hV).n2 hU).2.1 hT hz hX)

set_option maxRecDepth 100000 in
set_option maxHeartbeats 1000000 in
theorem lc_repair {xs : Nat → Int32} {L i k n n0 mc ms : Nat} {nm : String} {rt : Option FieldType} {Rq : ev_Q} {σ : ex_S} {μ : ex_L} (hi : i + 6 ≤ L) (hL : L ≤ 3072) (hk : k ≤ mc) (hn : n ≤ ms) (W : LI σ μ) (K : ∀ (σ' : ex_S) (μ' : ex_L), LI σ' μ' → Ev RL cL_law 4 100 mc ms nm rt (LX xs L) n0 Rq k n 1166 (LV i) [] TT σ' μ') : Ev RL cL_law 4 100 mc ms nm rt (LX xs L) n0 Rq k n 463 (LV i) [] TT σ μ := by
  obtain ⟨p, S, z, X, t, hp, hV, hU, hT, hz, hX, hC, hR, hI⟩ := W
  obtain ⟨f1, n1, a1, a2, a3, k1, s1, o1, x1, t1⟩ := id hC
  refine e_aload_n dL_law_463 rfl 1 rfl ?_
  refine e_aload_n dL_law_464 rfl 0 rfl ?_
  refine e_iload_n dL_law_465 rfl 3 rfl ?_
  refine e_iconst (v := 1) dL_law_466 rfl ?_
  refine e_iadd dL_law_467 ?_
  refine e_xald (N := L) (f := xs) dL_law_468 lx_in (lw_inc hi hL 1 (by decide)) ?_
  refine e_callVi dL_law_469 cvL_52 rfl tt_0 rfl (c10_repair hp hV f1 n1 k1 o1) (Nat.le_of_ble_eq_true rfl) hk hn rfl (Nat.le_of_ble_eq_true rfl) (fun r1 σ1 μ1 q1 => ?_)
  obtain ⟨e1, hq1⟩ := q1
  have hw := wc_repair hp hV hU hC hq1
  have hR1 := hR.keep hw.2
  obtain ⟨f2, n2, b1, b2, b3, x2, t2⟩ := id hR1
  refine e_aload_n dL_law_472 rfl 2 rfl ?_
  refine e_aload_n dL_law_473 rfl 0 rfl ?_
  refine e_iload_n dL_law_474 rfl 3 rfl ?_
  refine e_iconst (v := 1) dL_law_475 rfl ?_
  refine e_iadd dL_law_476 ?_
  refine e_xald (N := L) (f := xs) dL_law_477 lx_in (lw_inc hi hL 1 (by decide)) ?_
  refine e_callVi dL_law_478 cvL_55 rfl tt_127 rfl (c11_repair hp hV f2 n2) (Nat.le_of_ble_eq_true rfl) hk hn rfl (Nat.le_of_ble_eq_true rfl) (fun r2 σ2 μ2 q2 => ?_)
  obtain ⟨e2, hq2⟩ := q2
  have hv := wr_repair hp hV hU hR1 hq2
  refine e_icmp_eq (t := 1166) dL_law_481 (by decide) (fun _ => ?_) (fun h => absurd (e1.trans e2.symm) h)
  exact K _ _ (LI.mk (WC.keep ((nrepair_n hV).n2 hU).1 hw.1 hv.2) hv.1 (hI.keep hw.2 hv.2 ((nrepair_n hV).n2 hU)) hp ((nrepair_n hV).n2 hU).1 ((nrepair_n hV).n2 hU).2.1 hT hz hX)

set_option maxRecDepth 100000 in
set_option maxHeartbeats 1000000 in
theorem lc_told {xs : Nat → Int32} {L i k n n0 mc ms : Nat} {nm : String} {rt : Option FieldType} {Rq : ev_Q} {σ : ex_S} {μ : ex_L} (hi : i + 6 ≤ L) (hL : L ≤ 3072) (hk : k ≤ mc) (hn : n ≤ ms) (W : LI σ μ) (K : ∀ (σ' : ex_S) (μ' : ex_L), LI σ' μ' → Ev RL cL_law 4 100 mc ms nm rt (LX xs L) n0 Rq k n 1166 (LV i) [] TT σ' μ') : Ev RL cL_law 4 100 mc ms nm rt (LX xs L) n0 Rq k n 486 (LV i) [] TT σ μ := by
  obtain ⟨p, S, z, X, t, hp, hV, hU, hT, hz, hX, hC, hR, hI⟩ := W
  obtain ⟨f1, n1, a1, a2, a3, k1, s1, o1, x1, t1⟩ := id hC
  refine e_aload_n dL_law_486 rfl 1 rfl ?_
  refine e_aload_n dL_law_487 rfl 0 rfl ?_
  refine e_iload_n dL_law_488 rfl 3 rfl ?_
  refine e_iconst (v := 1) dL_law_489 rfl ?_
  refine e_iadd dL_law_490 ?_
  refine e_xald (N := L) (f := xs) dL_law_491 lx_in (lw_inc hi hL 1 (by decide)) ?_
  refine e_callVi dL_law_492 cvL_56 rfl tt_0 rfl (c10_told hp hV f1 n1 k1) (Nat.le_of_ble_eq_true rfl) hk hn rfl (Nat.le_of_ble_eq_true rfl) (fun r1 σ1 μ1 q1 => ?_)
  obtain ⟨e1, hq1⟩ := q1
  have hw := wc_told hp hV hU hC hq1
  have hR1 := hR.keep hw.2
  obtain ⟨f2, n2, b1, b2, b3, x2, t2⟩ := id hR1
  refine e_aload_n dL_law_495 rfl 2 rfl ?_
  refine e_aload_n dL_law_496 rfl 0 rfl ?_
  refine e_iload_n dL_law_497 rfl 3 rfl ?_
  refine e_iconst (v := 1) dL_law_498 rfl ?_
  refine e_iadd dL_law_499 ?_
  refine e_xald (N := L) (f := xs) dL_law_500 lx_in (lw_inc hi hL 1 (by decide)) ?_
  refine e_callVi dL_law_501 cvL_59 rfl tt_127 rfl (c11_told hp hV f2 n2) (Nat.le_of_ble_eq_true rfl) hk hn rfl (Nat.le_of_ble_eq_true rfl) (fun r2 σ2 μ2 q2 => ?_)
  obtain ⟨e2, hq2⟩ := q2
  have hv := wr_told hp hV hU hR1 hq2
  refine e_icmp_eq (t := 1166) dL_law_504 (by decide) (fun _ => ?_) (fun h => absurd (e1.trans e2.symm) h)
  exact K _ _ (LI.mk (WC.keep (N2.rf hV hU).1 hw.1 hv.2) hv.1 (hI.keep hw.2 hv.2 (N2.rf hV hU)) hp (N2.rf hV hU).1 (N2.rf hV hU).2.1 hT hz hX)

set_option maxRecDepth 100000 in
set_option maxHeartbeats 1000000 in
theorem lc_rank {xs : Nat → Int32} {L i k n n0 mc ms : Nat} {nm : String} {rt : Option FieldType} {Rq : ev_Q} {σ : ex_S} {μ : ex_L} (hi : i + 6 ≤ L) (hL : L ≤ 3072) (hk : k ≤ mc) (hn : n ≤ ms) (W : LI σ μ) (K : ∀ (σ' : ex_S) (μ' : ex_L), LI σ' μ' → Ev RL cL_law 4 100 mc ms nm rt (LX xs L) n0 Rq k n 1166 (LV i) [] TT σ' μ') : Ev RL cL_law 4 100 mc ms nm rt (LX xs L) n0 Rq k n 509 (LV i) [] TT σ μ := by
  obtain ⟨p, S, z, X, t, hp, hV, hU, hT, hz, hX, hC, hR, hI⟩ := W
  obtain ⟨f1, n1, a1, a2, a3, k1, s1, o1, x1, t1⟩ := id hC
  refine e_aload_n dL_law_509 rfl 1 rfl ?_
  refine e_aload_n dL_law_510 rfl 0 rfl ?_
  refine e_iload_n dL_law_511 rfl 3 rfl ?_
  refine e_iconst (v := 1) dL_law_512 rfl ?_
  refine e_iadd dL_law_513 ?_
  refine e_xald (N := L) (f := xs) dL_law_514 lx_in (lw_inc hi hL 1 (by decide)) ?_
  refine e_callVi dL_law_515 cvL_60 rfl tt_0 rfl (c10_rank hp hV n1 k1) (Nat.le_of_ble_eq_true rfl) hk hn rfl (Nat.le_of_ble_eq_true rfl) (fun r1 σ1 μ1 q1 => ?_)
  obtain ⟨e1, hq1⟩ := q1
  have hw := wc_rank hp hV hU hC hq1
  have hR1 := hR.keep hw.2
  obtain ⟨f2, n2, b1, b2, b3, x2, t2⟩ := id hR1
  refine e_aload_n dL_law_518 rfl 2 rfl ?_
  refine e_aload_n dL_law_519 rfl 0 rfl ?_
  refine e_iload_n dL_law_520 rfl 3 rfl ?_
  refine e_iconst (v := 1) dL_law_521 rfl ?_
  refine e_iadd dL_law_522 ?_
  refine e_xald (N := L) (f := xs) dL_law_523 lx_in (lw_inc hi hL 1 (by decide)) ?_
  refine e_callVi dL_law_524 cvL_63 rfl tt_127 rfl (c11_rank hp hV f2 n2) (Nat.le_of_ble_eq_true rfl) hk hn rfl (Nat.le_of_ble_eq_true rfl) (fun r2 σ2 μ2 q2 => ?_)
  obtain ⟨e2, hq2⟩ := q2
  have hv := wr_rank hp hV hU hR1 hq2
  refine e_icmp_eq (t := 1166) dL_law_527 (by decide) (fun _ => ?_) (fun h => absurd (e1.trans e2.symm) h)
  exact K _ _ (LI.mk (WC.keep (N2.rf hV hU).1 hw.1 hv.2) hv.1 (hI.keep hw.2 hv.2 (N2.rf hV hU)) hp (N2.rf hV hU).1 (N2.rf hV hU).2.1 hT hz hX)

set_option maxRecDepth 100000 in
set_option maxHeartbeats 1000000 in
theorem lc_safe {xs : Nat → Int32} {L i k n n0 mc ms : Nat} {nm : String} {rt : Option FieldType} {Rq : ev_Q} {σ : ex_S} {μ : ex_L} (hi : i + 6 ≤ L) (hL : L ≤ 3072) (hk : k ≤ mc) (hn : n ≤ ms) (W : LI σ μ) (K : ∀ (σ' : ex_S) (μ' : ex_L), LI σ' μ' → Ev RL cL_law 4 100 mc ms nm rt (LX xs L) n0 Rq k n 1166 (LV i) [] TT σ' μ') : Ev RL cL_law 4 100 mc ms nm rt (LX xs L) n0 Rq k n 532 (LV i) [] TT σ μ := by
  obtain ⟨p, S, z, X, t, hp, hV, hU, hT, hz, hX, hC, hR, hI⟩ := W
  obtain ⟨f1, n1, a1, a2, a3, k1, s1, o1, x1, t1⟩ := id hC
  refine e_aload_n dL_law_532 rfl 1 rfl ?_
  refine e_aload_n dL_law_533 rfl 0 rfl ?_
  refine e_iload_n dL_law_534 rfl 3 rfl ?_
  refine e_iconst (v := 1) dL_law_535 rfl ?_
  refine e_iadd dL_law_536 ?_
  refine e_xald (N := L) (f := xs) dL_law_537 lx_in (lw_inc hi hL 1 (by decide)) ?_
  refine e_callVi dL_law_538 cvL_64 rfl tt_0 rfl (c10_safe hp hV n1 k1) (Nat.le_of_ble_eq_true rfl) hk hn rfl (Nat.le_of_ble_eq_true rfl) (fun r1 σ1 μ1 q1 => ?_)
  obtain ⟨e1, hq1⟩ := q1
  have hw := wc_safe hp hV hU hC hq1
  have hR1 := hR.keep hw.2
  obtain ⟨f2, n2, b1, b2, b3, x2, t2⟩ := id hR1
  refine e_aload_n dL_law_541 rfl 2 rfl ?_
  refine e_aload_n dL_law_542 rfl 0 rfl ?_
  refine e_iload_n dL_law_543 rfl 3 rfl ?_
  refine e_iconst (v := 1) dL_law_544 rfl ?_
  refine e_iadd dL_law_545 ?_
  refine e_xald (N := L) (f := xs) dL_law_546 lx_in (lw_inc hi hL 1 (by decide)) ?_
  refine e_callVi dL_law_547 cvL_67 rfl tt_127 rfl (c11_safe hp hV f2 n2) (Nat.le_of_ble_eq_true rfl) hk hn rfl (Nat.le_of_ble_eq_true rfl) (fun r2 σ2 μ2 q2 => ?_)
  obtain ⟨e2, hq2⟩ := q2
  have hv := wr_safe hp hV hU hR1 hq2
  refine e_icmp_eq (t := 1166) dL_law_550 (by decide) (fun _ => ?_) (fun h => absurd (e1.trans e2.symm) h)
  exact K _ _ (LI.mk (WC.keep (N2.rf hV hU).1 hw.1 hv.2) hv.1 (hI.keep hw.2 hv.2 (N2.rf hV hU)) hp (N2.rf hV hU).1 (N2.rf hV hU).2.1 hT hz hX)

set_option maxRecDepth 100000 in
set_option maxHeartbeats 1000000 in
theorem lc_best {xs : Nat → Int32} {L i k n n0 mc ms : Nat} {nm : String} {rt : Option FieldType} {Rq : ev_Q} {σ : ex_S} {μ : ex_L} (hi : i + 6 ≤ L) (hL : L ≤ 3072) (hk : k ≤ mc) (hn : n ≤ ms) (W : LI σ μ) (K : ∀ (σ' : ex_S) (μ' : ex_L), LI σ' μ' → Ev RL cL_law 4 100 mc ms nm rt (LX xs L) n0 Rq k n 1166 (LV i) [] TT σ' μ') : Ev RL cL_law 4 100 mc ms nm rt (LX xs L) n0 Rq k n 555 (LV i) [] TT σ μ := by
  obtain ⟨p, S, z, X, t, hp, hV, hU, hT, hz, hX, hC, hR, hI⟩ := W
  obtain ⟨f1, n1, a1, a2, a3, k1, s1, o1, x1, t1⟩ := id hC
  refine e_aload_n dL_law_555 rfl 1 rfl ?_
  refine e_aload_n dL_law_556 rfl 0 rfl ?_
  refine e_iload_n dL_law_557 rfl 3 rfl ?_
  refine e_iconst (v := 1) dL_law_558 rfl ?_
  refine e_iadd dL_law_559 ?_
  refine e_xald (N := L) (f := xs) dL_law_560 lx_in (lw_inc hi hL 1 (by decide)) ?_
  refine e_aload_n dL_law_561 rfl 0 rfl ?_
  refine e_iload_n dL_law_562 rfl 3 rfl ?_
  refine e_iconst (v := 2) dL_law_563 rfl ?_
  refine e_iadd dL_law_564 ?_
  refine e_xald (N := L) (f := xs) dL_law_565 lx_in (lw_inc hi hL 2 (by decide)) ?_
  refine e_aload_n dL_law_566 rfl 0 rfl ?_
  refine e_iload_n dL_law_567 rfl 3 rfl ?_
  refine e_iconst (v := 3) dL_law_568 rfl ?_
  refine e_iadd dL_law_569 ?_
  refine e_xald (N := L) (f := xs) dL_law_570 lx_in (lw_inc hi hL 3 (by decide)) ?_
  refine e_callVi dL_law_571 cvL_68 rfl tt_0 rfl (c10_best hp hV f1 n1) (Nat.le_of_ble_eq_true rfl) hk hn rfl (Nat.le_of_ble_eq_true rfl) (fun r1 σ1 μ1 q1 => ?_)
  obtain ⟨e1, hq1⟩ := q1
  have hw := wc_best hp hV hU hC hq1
  have hR1 := hR.keep hw.2
  obtain ⟨f2, n2, b1, b2, b3, x2, t2⟩ := id hR1
  refine e_aload_n dL_law_574 rfl 2 rfl ?_
  refine e_aload_n dL_law_575 rfl 0 rfl ?_
  refine e_iload_n dL_law_576 rfl 3 rfl ?_
  refine e_iconst (v := 1) dL_law_577 rfl ?_
  refine e_iadd dL_law_578 ?_
  refine e_xald (N := L) (f := xs) dL_law_579 lx_in (lw_inc hi hL 1 (by decide)) ?_
  refine e_aload_n dL_law_580 rfl 0 rfl ?_
  refine e_iload_n dL_law_581 rfl 3 rfl ?_
  refine e_iconst (v := 2) dL_law_582 rfl ?_
  refine e_iadd dL_law_583 ?_
  refine e_xald (N := L) (f := xs) dL_law_584 lx_in (lw_inc hi hL 2 (by decide)) ?_
  refine e_aload_n dL_law_585 rfl 0 rfl ?_
  refine e_iload_n dL_law_586 rfl 3 rfl ?_
  refine e_iconst (v := 3) dL_law_587 rfl ?_
  refine e_iadd dL_law_588 ?_
  refine e_xald (N := L) (f := xs) dL_law_589 lx_in (lw_inc hi hL 3 (by decide)) ?_
  refine e_callVi dL_law_590 cvL_71 rfl tt_127 rfl (c11_best hp hV f2 n2) (Nat.le_of_ble_eq_true rfl) hk hn rfl (Nat.le_of_ble_eq_true rfl) (fun r2 σ2 μ2 q2 => ?_)
  obtain ⟨e2, hq2⟩ := q2
  have hv := wr_best hp hV hU hR1 hq2
  refine e_icmp_eq (t := 1166) dL_law_593 (by decide) (fun _ => ?_) (fun h => absurd (e1.trans e2.symm) h)
  exact K _ _ (LI.mk (WC.keep (N2.rf hV hU).1 hw.1 hv.2) hv.1 (hI.keep hw.2 hv.2 (N2.rf hV hU)) hp (N2.rf hV hU).1 (N2.rf hV hU).2.1 hT hz hX)

set_option maxRecDepth 100000 in
set_option maxHeartbeats 1000000 in
theorem lc_see {xs : Nat → Int32} {L i k n n0 mc ms : Nat} {nm : String} {rt : Option FieldType} {Rq : ev_Q} {σ : ex_S} {μ : ex_L} (hi : i + 6 ≤ L) (hL : L ≤ 3072) (hk : k ≤ mc) (hn : n ≤ ms) (W : LI σ μ) (K : ∀ (σ' : ex_S) (μ' : ex_L), LI σ' μ' → Ev RL cL_law 4 100 mc ms nm rt (LX xs L) n0 Rq k n 1166 (LV i) [] TT σ' μ') : Ev RL cL_law 4 100 mc ms nm rt (LX xs L) n0 Rq k n 598 (LV i) [] TT σ μ := by
  obtain ⟨p, S, z, X, t, hp, hV, hU, hT, hz, hX, hC, hR, hI⟩ := W
  obtain ⟨f1, n1, a1, a2, a3, k1, s1, o1, x1, t1⟩ := id hC
  refine e_aload_n dL_law_598 rfl 1 rfl ?_
  refine e_aload_n dL_law_599 rfl 0 rfl ?_
  refine e_iload_n dL_law_600 rfl 3 rfl ?_
  refine e_iconst (v := 1) dL_law_601 rfl ?_
  refine e_iadd dL_law_602 ?_
  refine e_xald (N := L) (f := xs) dL_law_603 lx_in (lw_inc hi hL 1 (by decide)) ?_
  refine e_aload_n dL_law_604 rfl 0 rfl ?_
  refine e_iload_n dL_law_605 rfl 3 rfl ?_
  refine e_iconst (v := 2) dL_law_606 rfl ?_
  refine e_iadd dL_law_607 ?_
  refine e_xald (N := L) (f := xs) dL_law_608 lx_in (lw_inc hi hL 2 (by decide)) ?_
  refine e_callVi dL_law_609 cvL_72 rfl tt_0 rfl (c10_see hV hU n1 a1) (Nat.le_of_ble_eq_true rfl) hk hn rfl (Nat.le_of_ble_eq_true rfl) (fun r1 σ1 μ1 q1 => ?_)
  obtain ⟨e1, hq1⟩ := q1
  have hw := wc_see hp hV hU hC hq1
  have hR1 := hR.keep hw.2
  obtain ⟨f2, n2, b1, b2, b3, x2, t2⟩ := id hR1
  refine e_aload_n dL_law_612 rfl 2 rfl ?_
  refine e_aload_n dL_law_613 rfl 0 rfl ?_
  refine e_iload_n dL_law_614 rfl 3 rfl ?_
  refine e_iconst (v := 1) dL_law_615 rfl ?_
  refine e_iadd dL_law_616 ?_
  refine e_xald (N := L) (f := xs) dL_law_617 lx_in (lw_inc hi hL 1 (by decide)) ?_
  refine e_aload_n dL_law_618 rfl 0 rfl ?_
  refine e_iload_n dL_law_619 rfl 3 rfl ?_
  refine e_iconst (v := 2) dL_law_620 rfl ?_
  refine e_iadd dL_law_621 ?_
  refine e_xald (N := L) (f := xs) dL_law_622 lx_in (lw_inc hi hL 2 (by decide)) ?_
  refine e_callVi dL_law_623 cvL_75 rfl tt_127 rfl (c11_see hV hU n2 b1) (Nat.le_of_ble_eq_true rfl) hk hn rfl (Nat.le_of_ble_eq_true rfl) (fun r2 σ2 μ2 q2 => ?_)
  obtain ⟨e2, hq2⟩ := q2
  have hv := wr_see hp hV hU hR1 hq2
  refine e_icmp_eq (t := 1166) dL_law_626 (by decide) (fun _ => ?_) (fun h => absurd (e1.trans e2.symm) h)
  exact K _ _ (LI.mk (WC.keep ((nsee_n hV hU).n2 (by decide) (by decide) hV).1 hw.1 hv.2) hv.1 (hI.keep hw.2 hv.2 ((nsee_n hV hU).n2 (by decide) (by decide) hV)) hp ((nsee_n hV hU).n2 (by decide) (by decide) hV).1 ((nsee_n hV hU).n2 (by decide) (by decide) hV).2.1 hT hz hX)

set_option maxRecDepth 100000 in
set_option maxHeartbeats 1000000 in
theorem lc_ways {xs : Nat → Int32} {L i k n n0 mc ms : Nat} {nm : String} {rt : Option FieldType} {Rq : ev_Q} {σ : ex_S} {μ : ex_L} (hi : i + 6 ≤ L) (hL : L ≤ 3072) (hk : k ≤ mc) (hn : n ≤ ms) (W : LI σ μ) (K : ∀ (σ' : ex_S) (μ' : ex_L), LI σ' μ' → Ev RL cL_law 4 100 mc ms nm rt (LX xs L) n0 Rq k n 1166 (LV i) [] TT σ' μ') : Ev RL cL_law 4 100 mc ms nm rt (LX xs L) n0 Rq k n 631 (LV i) [] TT σ μ := by
  obtain ⟨p, S, z, X, t, hp, hV, hU, hT, hz, hX, hC, hR, hI⟩ := W
  obtain ⟨f1, n1, a1, a2, a3, k1, s1, o1, x1, t1⟩ := id hC
  refine e_aload_n dL_law_631 rfl 1 rfl ?_
  refine e_aload_n dL_law_632 rfl 0 rfl ?_
  refine e_iload_n dL_law_633 rfl 3 rfl ?_
  refine e_iconst (v := 1) dL_law_634 rfl ?_
  refine e_iadd dL_law_635 ?_
  refine e_xald (N := L) (f := xs) dL_law_636 lx_in (lw_inc hi hL 1 (by decide)) ?_
  refine e_callVl dL_law_637 cvL_76 rfl tt_0 rfl (c10_ways hp hV hU f1 n1 a1) (Nat.le_of_ble_eq_true rfl) hk hn rfl (Nat.le_of_ble_eq_true rfl) (fun r1 σ1 μ1 q1 => ?_)
  obtain ⟨e1, hq1⟩ := q1
  have hw := wc_ways hp hV hU hC hq1
  have hR1 := hR.keep hw.2
  obtain ⟨f2, n2, b1, b2, b3, x2, t2⟩ := id hR1
  refine e_aload_n dL_law_640 rfl 2 rfl ?_
  refine e_aload_n dL_law_641 rfl 0 rfl ?_
  refine e_iload_n dL_law_642 rfl 3 rfl ?_
  refine e_iconst (v := 1) dL_law_643 rfl ?_
  refine e_iadd dL_law_644 ?_
  refine e_xald (N := L) (f := xs) dL_law_645 lx_in (lw_inc hi hL 1 (by decide)) ?_
  refine e_callVl dL_law_646 cvL_80 rfl tt_127 rfl (c11_ways hp hV hU f2 n2 b1) (Nat.le_of_ble_eq_true rfl) hk hn rfl (Nat.le_of_ble_eq_true rfl) (fun r2 σ2 μ2 q2 => ?_)
  obtain ⟨e2, hq2⟩ := q2
  have hv := wr_ways hp hV hU hR1 hq2
  refine e_lcmp dL_law_649 ?_
  refine e_if_eq (t := 1166) dL_law_650 (by decide) (fun _ => ?_) (fun h => absurd (by rw [e1, e2]; exact lc_self _) h)
  exact K _ _ (LI.mk (WC.keep (N2.rf hV hU).1 hw.1 hv.2) hv.1 (hI.keep hw.2 hv.2 (N2.rf hV hU)) hp (N2.rf hV hU).1 (N2.rf hV hU).2.1 hT hz hX)

set_option maxRecDepth 100000 in
set_option maxHeartbeats 1000000 in
theorem lc_can {xs : Nat → Int32} {L i k n n0 mc ms : Nat} {nm : String} {rt : Option FieldType} {Rq : ev_Q} {σ : ex_S} {μ : ex_L} (hi : i + 6 ≤ L) (hL : L ≤ 3072) (hk : k ≤ mc) (hn : n ≤ ms) (W : LI σ μ) (K : ∀ (σ' : ex_S) (μ' : ex_L), LI σ' μ' → Ev RL cL_law 4 100 mc ms nm rt (LX xs L) n0 Rq k n 1166 (LV i) [] TT σ' μ') : Ev RL cL_law 4 100 mc ms nm rt (LX xs L) n0 Rq k n 655 (LV i) [] TT σ μ := by
  obtain ⟨p, S, z, X, t, hp, hV, hU, hT, hz, hX, hC, hR, hI⟩ := W
  obtain ⟨f1, n1, a1, a2, a3, k1, s1, o1, x1, t1⟩ := id hC
  refine e_aload_n dL_law_655 rfl 1 rfl ?_
  refine e_aload_n dL_law_656 rfl 0 rfl ?_
  refine e_iload_n dL_law_657 rfl 3 rfl ?_
  refine e_iconst (v := 1) dL_law_658 rfl ?_
  refine e_iadd dL_law_659 ?_
  refine e_xald (N := L) (f := xs) dL_law_660 lx_in (lw_inc hi hL 1 (by decide)) ?_
  refine e_callVi dL_law_661 cvL_81 rfl tt_0 rfl (c10_can hp hV hU f1 n1 a1) (Nat.le_of_ble_eq_true rfl) hk hn rfl (Nat.le_of_ble_eq_true rfl) (fun r1 σ1 μ1 q1 => ?_)
  obtain ⟨e1, hq1⟩ := q1
  have hw := wc_can hp hV hU hC hq1
  have hR1 := hR.keep hw.2
  obtain ⟨f2, n2, b1, b2, b3, x2, t2⟩ := id hR1
  refine e_aload_n dL_law_664 rfl 2 rfl ?_
  refine e_aload_n dL_law_665 rfl 0 rfl ?_
  refine e_iload_n dL_law_666 rfl 3 rfl ?_
  refine e_iconst (v := 1) dL_law_667 rfl ?_
  refine e_iadd dL_law_668 ?_
  refine e_xald (N := L) (f := xs) dL_law_669 lx_in (lw_inc hi hL 1 (by decide)) ?_
  refine e_callVi dL_law_670 cvL_84 rfl tt_127 rfl (c11_can hp hV hU f2 n2 b1) (Nat.le_of_ble_eq_true rfl) hk hn rfl (Nat.le_of_ble_eq_true rfl) (fun r2 σ2 μ2 q2 => ?_)
  obtain ⟨e2, hq2⟩ := q2
  have hv := wr_can hp hV hU hR1 hq2
  refine e_icmp_eq (t := 1166) dL_law_673 (by decide) (fun _ => ?_) (fun h => absurd (e1.trans e2.symm) h)
  exact K _ _ (LI.mk (WC.keep (N2.rf hV hU).1 hw.1 hv.2) hv.1 (hI.keep hw.2 hv.2 (N2.rf hV hU)) hp (N2.rf hV hU).1 (N2.rf hV hU).2.1 hT hz hX)

set_option maxRecDepth 100000 in
set_option maxHeartbeats 1000000 in
theorem lc_odds {xs : Nat → Int32} {L i k n n0 mc ms : Nat} {nm : String} {rt : Option FieldType} {Rq : ev_Q} {σ : ex_S} {μ : ex_L} (hi : i + 6 ≤ L) (hL : L ≤ 3072) (hk : k ≤ mc) (hn : n ≤ ms) (W : LI σ μ) (K : ∀ (σ' : ex_S) (μ' : ex_L), LI σ' μ' → Ev RL cL_law 4 100 mc ms nm rt (LX xs L) n0 Rq k n 1166 (LV i) [] TT σ' μ') : Ev RL cL_law 4 100 mc ms nm rt (LX xs L) n0 Rq k n 678 (LV i) [] TT σ μ := by
  obtain ⟨p, S, z, X, t, hp, hV, hU, hT, hz, hX, hC, hR, hI⟩ := W
  obtain ⟨f1, n1, a1, a2, a3, k1, s1, o1, x1, t1⟩ := id hC
  refine e_aload_n dL_law_678 rfl 1 rfl ?_
  refine e_aload_n dL_law_679 rfl 0 rfl ?_
  refine e_iload_n dL_law_680 rfl 3 rfl ?_
  refine e_iconst (v := 1) dL_law_681 rfl ?_
  refine e_iadd dL_law_682 ?_
  refine e_xald (N := L) (f := xs) dL_law_683 lx_in (lw_inc hi hL 1 (by decide)) ?_
  refine e_aload_n dL_law_684 rfl 0 rfl ?_
  refine e_iload_n dL_law_685 rfl 3 rfl ?_
  refine e_iconst (v := 2) dL_law_686 rfl ?_
  refine e_iadd dL_law_687 ?_
  refine e_xald (N := L) (f := xs) dL_law_688 lx_in (lw_inc hi hL 2 (by decide)) ?_
  refine e_callVl dL_law_689 cvL_85 rfl tt_0 rfl (c10_odds hp hV n1 k1) (Nat.le_of_ble_eq_true rfl) hk hn rfl (Nat.le_of_ble_eq_true rfl) (fun r1 σ1 μ1 q1 => ?_)
  obtain ⟨e1, hq1⟩ := q1
  have hw := wc_odds hp hV hU hC hq1
  have hR1 := hR.keep hw.2
  obtain ⟨f2, n2, b1, b2, b3, x2, t2⟩ := id hR1
  refine e_aload_n dL_law_692 rfl 2 rfl ?_
  refine e_aload_n dL_law_693 rfl 0 rfl ?_
  refine e_iload_n dL_law_694 rfl 3 rfl ?_
  refine e_iconst (v := 1) dL_law_695 rfl ?_
  refine e_iadd dL_law_696 ?_
  refine e_xald (N := L) (f := xs) dL_law_697 lx_in (lw_inc hi hL 1 (by decide)) ?_
  refine e_aload_n dL_law_698 rfl 0 rfl ?_
  refine e_iload_n dL_law_699 rfl 3 rfl ?_
  refine e_iconst (v := 2) dL_law_700 rfl ?_
  refine e_iadd dL_law_701 ?_
  refine e_xald (N := L) (f := xs) dL_law_702 lx_in (lw_inc hi hL 2 (by decide)) ?_
  refine e_callVl dL_law_703 cvL_89 rfl tt_127 rfl (c11_odds hp hV f2 n2) (Nat.le_of_ble_eq_true rfl) hk hn rfl (Nat.le_of_ble_eq_true rfl) (fun r2 σ2 μ2 q2 => ?_)
  obtain ⟨e2, hq2⟩ := q2
  have hv := wr_odds hp hV hU hR1 hq2
  refine e_lcmp dL_law_706 ?_
  refine e_if_eq (t := 1166) dL_law_707 (by decide) (fun _ => ?_) (fun h => absurd (by rw [e1, e2]; exact lc_self _) h)
  exact K _ _ (LI.mk (WC.keep (N2.rf hV hU).1 hw.1 hv.2) hv.1 (hI.keep hw.2 hv.2 (N2.rf hV hU)) hp (N2.rf hV hU).1 (N2.rf hV hU).2.1 hT hz hX)

set_option maxRecDepth 100000 in
set_option maxHeartbeats 1000000 in
theorem lc_mean {xs : Nat → Int32} {L i k n n0 mc ms : Nat} {nm : String} {rt : Option FieldType} {Rq : ev_Q} {σ : ex_S} {μ : ex_L} (hi : i + 6 ≤ L) (hL : L ≤ 3072) (hk : k ≤ mc) (hn : n ≤ ms) (W : LI σ μ) (K : ∀ (σ' : ex_S) (μ' : ex_L), LI σ' μ' → Ev RL cL_law 4 100 mc ms nm rt (LX xs L) n0 Rq k n 1166 (LV i) [] TT σ' μ') : Ev RL cL_law 4 100 mc ms nm rt (LX xs L) n0 Rq k n 712 (LV i) [] TT σ μ := by
  obtain ⟨p, S, z, X, t, hp, hV, hU, hT, hz, hX, hC, hR, hI⟩ := W
  obtain ⟨f1, n1, a1, a2, a3, k1, s1, o1, x1, t1⟩ := id hC
  refine e_aload_n dL_law_712 rfl 1 rfl ?_
  refine e_aload_n dL_law_713 rfl 0 rfl ?_
  refine e_iload_n dL_law_714 rfl 3 rfl ?_
  refine e_iconst (v := 1) dL_law_715 rfl ?_
  refine e_iadd dL_law_716 ?_
  refine e_xald (N := L) (f := xs) dL_law_717 lx_in (lw_inc hi hL 1 (by decide)) ?_
  refine e_callVl dL_law_718 cvL_90 rfl tt_0 rfl (c10_mean hp hV n1 k1 o1) (Nat.le_of_ble_eq_true rfl) hk hn rfl (Nat.le_of_ble_eq_true rfl) (fun r1 σ1 μ1 q1 => ?_)
  obtain ⟨e1, hq1⟩ := q1
  have hw := wc_mean hp hV hU hC hq1
  have hR1 := hR.keep hw.2
  obtain ⟨f2, n2, b1, b2, b3, x2, t2⟩ := id hR1
  refine e_aload_n dL_law_721 rfl 2 rfl ?_
  refine e_aload_n dL_law_722 rfl 0 rfl ?_
  refine e_iload_n dL_law_723 rfl 3 rfl ?_
  refine e_iconst (v := 1) dL_law_724 rfl ?_
  refine e_iadd dL_law_725 ?_
  refine e_xald (N := L) (f := xs) dL_law_726 lx_in (lw_inc hi hL 1 (by decide)) ?_
  refine e_callVl dL_law_727 cvL_93 rfl tt_127 rfl (c11_mean hp hV f2 n2) (Nat.le_of_ble_eq_true rfl) hk hn rfl (Nat.le_of_ble_eq_true rfl) (fun r2 σ2 μ2 q2 => ?_)
  obtain ⟨e2, hq2⟩ := q2
  have hv := wr_mean hp hV hU hR1 hq2
  refine e_lcmp dL_law_730 ?_
  refine e_if_eq (t := 1166) dL_law_731 (by decide) (fun _ => ?_) (fun h => absurd (by rw [e1, e2]; exact lc_self _) h)
  exact K _ _ (LI.mk (WC.keep (N2.rf hV hU).1 hw.1 hv.2) hv.1 (hI.keep hw.2 hv.2 (N2.rf hV hU)) hp (N2.rf hV hU).1 (N2.rf hV hU).2.1 hT hz hX)

set_option maxRecDepth 100000 in
set_option maxHeartbeats 1000000 in
theorem lc_plan {xs : Nat → Int32} {L i k n n0 mc ms : Nat} {nm : String} {rt : Option FieldType} {Rq : ev_Q} {σ : ex_S} {μ : ex_L} (hi : i + 6 ≤ L) (hL : L ≤ 3072) (hk : k ≤ mc) (hn : n ≤ ms) (W : LI σ μ) (K : ∀ (σ' : ex_S) (μ' : ex_L), LI σ' μ' → Ev RL cL_law 4 100 mc ms nm rt (LX xs L) n0 Rq k n 1166 (LV i) [] TT σ' μ') : Ev RL cL_law 4 100 mc ms nm rt (LX xs L) n0 Rq k n 736 (LV i) [] TT σ μ := by
  obtain ⟨p, S, z, X, t, hp, hV, hU, hT, hz, hX, hC, hR, hI⟩ := W
  obtain ⟨f1, n1, a1, a2, a3, k1, s1, o1, x1, t1⟩ := id hC
  refine e_aload_n dL_law_736 rfl 1 rfl ?_
  refine e_aload_n dL_law_737 rfl 0 rfl ?_
  refine e_iload_n dL_law_738 rfl 3 rfl ?_
  refine e_iconst (v := 1) dL_law_739 rfl ?_
  refine e_iadd dL_law_740 ?_
  refine e_xald (N := L) (f := xs) dL_law_741 lx_in (lw_inc hi hL 1 (by decide)) ?_
  refine e_aload_n dL_law_742 rfl 0 rfl ?_
  refine e_iload_n dL_law_743 rfl 3 rfl ?_
  refine e_iconst (v := 2) dL_law_744 rfl ?_
  refine e_iadd dL_law_745 ?_
  refine e_xald (N := L) (f := xs) dL_law_746 lx_in (lw_inc hi hL 2 (by decide)) ?_
  refine e_callVi dL_law_747 cvL_94 rfl tt_0 rfl (c10_plan hV hU n1 a2) (Nat.le_of_ble_eq_true rfl) hk hn rfl (Nat.le_of_ble_eq_true rfl) (fun r1 σ1 μ1 q1 => ?_)
  obtain ⟨e1, hq1⟩ := q1
  have hw := wc_plan hp hV hU hC hq1
  have hR1 := hR.keep hw.2
  obtain ⟨f2, n2, b1, b2, b3, x2, t2⟩ := id hR1
  refine e_aload_n dL_law_750 rfl 2 rfl ?_
  refine e_aload_n dL_law_751 rfl 0 rfl ?_
  refine e_iload_n dL_law_752 rfl 3 rfl ?_
  refine e_iconst (v := 1) dL_law_753 rfl ?_
  refine e_iadd dL_law_754 ?_
  refine e_xald (N := L) (f := xs) dL_law_755 lx_in (lw_inc hi hL 1 (by decide)) ?_
  refine e_aload_n dL_law_756 rfl 0 rfl ?_
  refine e_iload_n dL_law_757 rfl 3 rfl ?_
  refine e_iconst (v := 2) dL_law_758 rfl ?_
  refine e_iadd dL_law_759 ?_
  refine e_xald (N := L) (f := xs) dL_law_760 lx_in (lw_inc hi hL 2 (by decide)) ?_
  refine e_callVi dL_law_761 cvL_97 rfl tt_127 rfl (c11_plan hV hU n2 b2) (Nat.le_of_ble_eq_true rfl) hk hn rfl (Nat.le_of_ble_eq_true rfl) (fun r2 σ2 μ2 q2 => ?_)
  obtain ⟨e2, hq2⟩ := q2
  have hv := wr_plan hp hV hU hR1 hq2
  refine e_icmp_eq (t := 1166) dL_law_764 (by decide) (fun _ => ?_) (fun h => absurd (e1.trans e2.symm) h)
  exact K _ _ (LI.mk (WC.keep ((nplan_n hV hU).n2 (by decide) (by decide) hV).1 hw.1 hv.2) hv.1 (hI.keep hw.2 hv.2 ((nplan_n hV hU).n2 (by decide) (by decide) hV)) hp ((nplan_n hV hU).n2 (by decide) (by decide) hV).1 ((nplan_n hV hU).n2 (by decide) (by decide) hV).2.1 hT hz hX)

set_option maxRecDepth 100000 in
set_option maxHeartbeats 1000000 in
theorem lc_ends {xs : Nat → Int32} {L i k n n0 mc ms : Nat} {nm : String} {rt : Option FieldType} {Rq : ev_Q} {σ : ex_S} {μ : ex_L} (hi : i + 6 ≤ L) (hL : L ≤ 3072) (hk : k ≤ mc) (hn : n ≤ ms) (W : LI σ μ) (K : ∀ (σ' : ex_S) (μ' : ex_L), LI σ' μ' → Ev RL cL_law 4 100 mc ms nm rt (LX xs L) n0 Rq k n 1166 (LV i) [] TT σ' μ') : Ev RL cL_law 4 100 mc ms nm rt (LX xs L) n0 Rq k n 769 (LV i) [] TT σ μ := by
  obtain ⟨p, S, z, X, t, hp, hV, hU, hT, hz, hX, hC, hR, hI⟩ := W
  obtain ⟨f1, n1, a1, a2, a3, k1, s1, o1, x1, t1⟩ := id hC
  refine e_aload_n dL_law_769 rfl 1 rfl ?_
  refine e_aload_n dL_law_770 rfl 0 rfl ?_
  refine e_iload_n dL_law_771 rfl 3 rfl ?_
  refine e_iconst (v := 1) dL_law_772 rfl ?_
  refine e_iadd dL_law_773 ?_
  refine e_xald (N := L) (f := xs) dL_law_774 lx_in (lw_inc hi hL 1 (by decide)) ?_
  refine e_callVi dL_law_775 cvL_98 rfl tt_0 rfl (c10_ends hp hV hU n1 k1 a2 o1) (Nat.le_of_ble_eq_true rfl) hk hn rfl (Nat.le_of_ble_eq_true rfl) (fun r1 σ1 μ1 q1 => ?_)
  obtain ⟨e1, hq1⟩ := q1
  have hw := wc_ends hp hV hU hC hq1
  have hR1 := hR.keep hw.2
  obtain ⟨f2, n2, b1, b2, b3, x2, t2⟩ := id hR1
  refine e_aload_n dL_law_778 rfl 2 rfl ?_
  refine e_aload_n dL_law_779 rfl 0 rfl ?_
  refine e_iload_n dL_law_780 rfl 3 rfl ?_
  refine e_iconst (v := 1) dL_law_781 rfl ?_
  refine e_iadd dL_law_782 ?_
  refine e_xald (N := L) (f := xs) dL_law_783 lx_in (lw_inc hi hL 1 (by decide)) ?_
  refine e_callVi dL_law_784 cvL_101 rfl tt_127 rfl (c11_ends hp hV hU f2 n2 b2) (Nat.le_of_ble_eq_true rfl) hk hn rfl (Nat.le_of_ble_eq_true rfl) (fun r2 σ2 μ2 q2 => ?_)
  obtain ⟨e2, hq2⟩ := q2
  have hv := wr_ends hp hV hU hR1 hq2
  refine e_icmp_eq (t := 1166) dL_law_787 (by decide) (fun _ => ?_) (fun h => absurd (e1.trans e2.symm) h)
  exact K _ _ (LI.mk (WC.keep (N2.rf hV hU).1 hw.1 hv.2) hv.1 (hI.keep hw.2 hv.2 (N2.rf hV hU)) hp (N2.rf hV hU).1 (N2.rf hV hU).2.1 hT hz hX)

set_option maxRecDepth 100000 in
set_option maxHeartbeats 1000000 in
theorem lc_book {xs : Nat → Int32} {L i k n n0 mc ms : Nat} {nm : String} {rt : Option FieldType} {Rq : ev_Q} {σ : ex_S} {μ : ex_L} (hi : i + 6 ≤ L) (hL : L ≤ 3072) (hk : k ≤ mc) (hn : n ≤ ms) (W : LI σ μ) (K : ∀ (σ' : ex_S) (μ' : ex_L), LI σ' μ' → Ev RL cL_law 4 100 mc ms nm rt (LX xs L) n0 Rq k n 1166 (LV i) [] TT σ' μ') : Ev RL cL_law 4 100 mc ms nm rt (LX xs L) n0 Rq k n 792 (LV i) [] TT σ μ := by
  obtain ⟨p, S, z, X, t, hp, hV, hU, hT, hz, hX, hC, hR, hI⟩ := W
  obtain ⟨f1, n1, a1, a2, a3, k1, s1, o1, x1, t1⟩ := id hC
  refine e_aload_n dL_law_792 rfl 1 rfl ?_
  refine e_aload_n dL_law_793 rfl 0 rfl ?_
  refine e_iload_n dL_law_794 rfl 3 rfl ?_
  refine e_iconst (v := 1) dL_law_795 rfl ?_
  refine e_iadd dL_law_796 ?_
  refine e_xald (N := L) (f := xs) dL_law_797 lx_in (lw_inc hi hL 1 (by decide)) ?_
  refine e_aload_n dL_law_798 rfl 0 rfl ?_
  refine e_iload_n dL_law_799 rfl 3 rfl ?_
  refine e_iconst (v := 2) dL_law_800 rfl ?_
  refine e_iadd dL_law_801 ?_
  refine e_xald (N := L) (f := xs) dL_law_802 lx_in (lw_inc hi hL 2 (by decide)) ?_
  refine e_callVi dL_law_803 cvL_102 rfl tt_0 rfl (c10_book hV hU n1 a3) (Nat.le_of_ble_eq_true rfl) hk hn rfl (Nat.le_of_ble_eq_true rfl) (fun r1 σ1 μ1 q1 => ?_)
  obtain ⟨e1, hq1⟩ := q1
  have hw := wc_book hp hV hU hC hq1
  have hR1 := hR.keep hw.2
  obtain ⟨f2, n2, b1, b2, b3, x2, t2⟩ := id hR1
  refine e_aload_n dL_law_806 rfl 2 rfl ?_
  refine e_aload_n dL_law_807 rfl 0 rfl ?_
  refine e_iload_n dL_law_808 rfl 3 rfl ?_
  refine e_iconst (v := 1) dL_law_809 rfl ?_
  refine e_iadd dL_law_810 ?_
  refine e_xald (N := L) (f := xs) dL_law_811 lx_in (lw_inc hi hL 1 (by decide)) ?_
  refine e_aload_n dL_law_812 rfl 0 rfl ?_
  refine e_iload_n dL_law_813 rfl 3 rfl ?_
  refine e_iconst (v := 2) dL_law_814 rfl ?_
  refine e_iadd dL_law_815 ?_
  refine e_xald (N := L) (f := xs) dL_law_816 lx_in (lw_inc hi hL 2 (by decide)) ?_
  refine e_callVi dL_law_817 cvL_105 rfl tt_127 rfl (c11_book hV hU n2 b3) (Nat.le_of_ble_eq_true rfl) hk hn rfl (Nat.le_of_ble_eq_true rfl) (fun r2 σ2 μ2 q2 => ?_)
  obtain ⟨e2, hq2⟩ := q2
  have hv := wr_book hp hV hU hR1 hq2
  refine e_icmp_eq (t := 1166) dL_law_820 (by decide) (fun _ => ?_) (fun h => absurd (e1.trans e2.symm) h)
  exact K _ _ (LI.mk (WC.keep ((nbook_n hV hU).n2 (by decide) (by decide) hV).1 hw.1 hv.2) hv.1 (hI.keep hw.2 hv.2 ((nbook_n hV hU).n2 (by decide) (by decide) hV)) hp ((nbook_n hV hU).n2 (by decide) (by decide) hV).1 ((nbook_n hV hU).n2 (by decide) (by decide) hV).2.1 hT hz hX)

set_option maxRecDepth 100000 in
set_option maxHeartbeats 1000000 in
theorem lc_looked {xs : Nat → Int32} {L i k n n0 mc ms : Nat} {nm : String} {rt : Option FieldType} {Rq : ev_Q} {σ : ex_S} {μ : ex_L} (hi : i + 6 ≤ L) (hL : L ≤ 3072) (hk : k ≤ mc) (hn : n ≤ ms) (W : LI σ μ) (K : ∀ (σ' : ex_S) (μ' : ex_L), LI σ' μ' → Ev RL cL_law 4 100 mc ms nm rt (LX xs L) n0 Rq k n 1166 (LV i) [] TT σ' μ') : Ev RL cL_law 4 100 mc ms nm rt (LX xs L) n0 Rq k n 825 (LV i) [] TT σ μ := by
  obtain ⟨p, S, z, X, t, hp, hV, hU, hT, hz, hX, hC, hR, hI⟩ := W
  obtain ⟨f1, n1, a1, a2, a3, k1, s1, o1, x1, t1⟩ := id hC
  refine e_aload_n dL_law_825 rfl 1 rfl ?_
  refine e_callVi dL_law_826 cvL_106 rfl tt_0 rfl (c10_looked hp hV hU f1 n1 a3) (Nat.le_of_ble_eq_true rfl) hk hn rfl (Nat.le_of_ble_eq_true rfl) (fun r1 σ1 μ1 q1 => ?_)
  obtain ⟨e1, hq1⟩ := q1
  have hw := wc_looked hp hV hU hC hq1
  have hR1 := hR.keep hw.2
  obtain ⟨f2, n2, b1, b2, b3, x2, t2⟩ := id hR1
  refine e_aload_n dL_law_829 rfl 2 rfl ?_
  refine e_callVi dL_law_830 cvL_110 rfl tt_127 rfl (c11_looked hp hV hU f2 n2 b3) (Nat.le_of_ble_eq_true rfl) hk hn rfl (Nat.le_of_ble_eq_true rfl) (fun r2 σ2 μ2 q2 => ?_)
  obtain ⟨e2, hq2⟩ := q2
  have hv := wr_looked hp hV hU hR1 hq2
  refine e_icmp_eq (t := 1166) dL_law_833 (by decide) (fun _ => ?_) (fun h => absurd (e1.trans e2.symm) h)
  exact K _ _ (LI.mk (WC.keep (N2.rf hV hU).1 hw.1 hv.2) hv.1 (hI.keep hw.2 hv.2 (N2.rf hV hU)) hp (N2.rf hV hU).1 (N2.rf hV hU).2.1 hT hz hX)

set_option maxRecDepth 100000 in
set_option maxHeartbeats 1000000 in
theorem lc_judge {xs : Nat → Int32} {L i k n n0 mc ms : Nat} {nm : String} {rt : Option FieldType} {Rq : ev_Q} {σ : ex_S} {μ : ex_L} (hi : i + 6 ≤ L) (hL : L ≤ 3072) (hk : k ≤ mc) (hn : n ≤ ms) (W : LI σ μ) (K : ∀ (σ' : ex_S) (μ' : ex_L), LI σ' μ' → Ev RL cL_law 4 100 mc ms nm rt (LX xs L) n0 Rq k n 1166 (LV i) [] TT σ' μ') : Ev RL cL_law 4 100 mc ms nm rt (LX xs L) n0 Rq k n 838 (LV i) [] TT σ μ := by
  obtain ⟨p, S, z, X, t, hp, hV, hU, hT, hz, hX, hC, hR, hI⟩ := W
  obtain ⟨f1, n1, a1, a2, a3, k1, s1, o1, x1, t1⟩ := id hC
  refine e_aload_n dL_law_838 rfl 1 rfl ?_
  refine e_aload_n dL_law_839 rfl 0 rfl ?_
  refine e_iload_n dL_law_840 rfl 3 rfl ?_
  refine e_iconst (v := 1) dL_law_841 rfl ?_
  refine e_iadd dL_law_842 ?_
  refine e_xald (N := L) (f := xs) dL_law_843 lx_in (lw_inc hi hL 1 (by decide)) ?_
  refine e_aload_n dL_law_844 rfl 0 rfl ?_
  refine e_iload_n dL_law_845 rfl 3 rfl ?_
  refine e_iconst (v := 2) dL_law_846 rfl ?_
  refine e_iadd dL_law_847 ?_
  refine e_xald (N := L) (f := xs) dL_law_848 lx_in (lw_inc hi hL 2 (by decide)) ?_
  refine e_callVi dL_law_849 cvL_111 rfl tt_0 rfl (c10_judge hp hV hT f1 n1 t1) (Nat.le_of_ble_eq_true rfl) hk hn rfl (Nat.le_of_ble_eq_true rfl) (fun r1 σ1 μ1 q1 => ?_)
  obtain ⟨e1, hq1⟩ := q1
  have hw := wc_judge hp hV hU hC hq1
  have hR1 := hR.keep hw.2
  obtain ⟨f2, n2, b1, b2, b3, x2, t2⟩ := id hR1
  refine e_aload_n dL_law_852 rfl 2 rfl ?_
  refine e_aload_n dL_law_853 rfl 0 rfl ?_
  refine e_iload_n dL_law_854 rfl 3 rfl ?_
  refine e_iconst (v := 1) dL_law_855 rfl ?_
  refine e_iadd dL_law_856 ?_
  refine e_xald (N := L) (f := xs) dL_law_857 lx_in (lw_inc hi hL 1 (by decide)) ?_
  refine e_aload_n dL_law_858 rfl 0 rfl ?_
  refine e_iload_n dL_law_859 rfl 3 rfl ?_
  refine e_iconst (v := 2) dL_law_860 rfl ?_
  refine e_iadd dL_law_861 ?_
  refine e_xald (N := L) (f := xs) dL_law_862 lx_in (lw_inc hi hL 2 (by decide)) ?_
  refine e_callVi dL_law_863 cvL_114 rfl tt_127 rfl (c11_judge hp hV hT f2 n2 t2) (Nat.le_of_ble_eq_true rfl) hk hn rfl (Nat.le_of_ble_eq_true rfl) (fun r2 σ2 μ2 q2 => ?_)
  obtain ⟨e2, hq2⟩ := q2
  have hv := wr_judge hp hV hU hR1 hq2
  refine e_icmp_eq (t := 1166) dL_law_866 (by decide) (fun _ => ?_) (fun h => absurd (e1.trans e2.symm) h)
  exact K _ _ (LI.mk (WC.keep (N2.rf hV hU).1 hw.1 hv.2) hv.1 (hI.keep hw.2 hv.2 (N2.rf hV hU)) hp (N2.rf hV hU).1 (N2.rf hV hU).2.1 hT hz hX)

set_option maxRecDepth 100000 in
set_option maxHeartbeats 1000000 in
theorem lc_image {xs : Nat → Int32} {L i k n n0 mc ms : Nat} {nm : String} {rt : Option FieldType} {Rq : ev_Q} {σ : ex_S} {μ : ex_L} (hi : i + 6 ≤ L) (hL : L ≤ 3072) (hk : k ≤ mc) (hn : n ≤ ms) (W : LI σ μ) (K : ∀ (σ' : ex_S) (μ' : ex_L), LI σ' μ' → Ev RL cL_law 4 100 mc ms nm rt (LX xs L) n0 Rq k n 1166 (LV i) [] TT σ' μ') : Ev RL cL_law 4 100 mc ms nm rt (LX xs L) n0 Rq k n 871 (LV i) [] TT σ μ := by
  obtain ⟨p, S, z, X, t, hp, hV, hU, hT, hz, hX, hC, hR, hI⟩ := W
  obtain ⟨f1, n1, a1, a2, a3, k1, s1, o1, x1, t1⟩ := id hC
  refine e_aload_n dL_law_871 rfl 1 rfl ?_
  refine e_callVi dL_law_872 cvL_115 rfl tt_0 rfl (c10_image hV hU ⟨n1, a1, a2, a3⟩) (Nat.le_of_ble_eq_true rfl) hk hn rfl (Nat.le_of_ble_eq_true rfl) (fun r1 σ1 μ1 q1 => ?_)
  obtain ⟨e1, hq1⟩ := q1
  obtain ⟨hC1, hR1⟩ := wi_im1 hV hC hR hq1
  refine e_aload_n dL_law_875 rfl 2 rfl ?_
  refine e_callVi dL_law_876 cvL_118 rfl tt_127 rfl (c11_image hR1.2.1) (Nat.le_of_ble_eq_true rfl) hk hn rfl (Nat.le_of_ble_eq_true rfl) (fun r2 σ2 μ2 q2 => ?_)
  obtain ⟨e2, hq2⟩ := q2
  obtain ⟨hC2, hR2, hI2⟩ := wi_im2 hV hU hC1 hR1 hq1.1 hq1.2.1 hq2
  refine e_icmp_eq (t := 1166) dL_law_879 (by decide) (fun _ => ?_) (fun h => absurd (e1.trans e2.symm) h)
  exact K _ _ (LI.mk hC2 hR2 hI2 hp hV hU hT hz hX)

set_option maxRecDepth 100000 in
set_option maxHeartbeats 1000000 in
theorem lc_undo {xs : Nat → Int32} {L i k n n0 mc ms : Nat} {nm : String} {rt : Option FieldType} {Rq : ev_Q} {σ : ex_S} {μ : ex_L} (hi : i + 6 ≤ L) (hL : L ≤ 3072) (hk : k ≤ mc) (hn : n ≤ ms) (W : LI σ μ) (K : ∀ (σ' : ex_S) (μ' : ex_L), LI σ' μ' → Ev RL cL_law 4 100 mc ms nm rt (LX xs L) n0 Rq k n 1166 (LV i) [] TT σ' μ') : Ev RL cL_law 4 100 mc ms nm rt (LX xs L) n0 Rq k n 884 (LV i) [] TT σ μ := by
  obtain ⟨p, S, z, X, t, hp, hV, hU, hT, hz, hX, hC, hR, hI⟩ := W
  rcases id hI with ⟨i1, i2⟩ | ⟨i1, i2, Kn, hVK, hUK, hSK, ⟨σk, m1, m2, m3, m4, m5⟩, g1, g2⟩
  · skip
    refine e_aload_n dL_law_884 rfl 1 rfl ?_
    refine e_callVi dL_law_885 cvL_119 rfl tt_0 rfl (c10_undo0 i1) (Nat.le_of_ble_eq_true rfl) hk hn rfl (Nat.le_of_ble_eq_true rfl) (fun r1 σ1 μ1 q1 => ?_)
    obtain ⟨e1, rfl, rfl⟩ := q1
    refine e_aload_n dL_law_888 rfl 2 rfl ?_
    refine e_callVi dL_law_889 cvL_122 rfl tt_127 rfl (c11_undo0 i2) (Nat.le_of_ble_eq_true rfl) hk hn rfl (Nat.le_of_ble_eq_true rfl) (fun r2 σ2 μ2 q2 => ?_)
    obtain ⟨e2, rfl, rfl⟩ := q2
    refine e_icmp_eq (t := 1166) dL_law_892 (by decide) (fun _ => ?_) (fun h => absurd (e1.trans e2.symm) h)
    exact K _ _ (LI.mk hC hR hI hp hV hU hT hz hX)
  · skip
    refine e_aload_n dL_law_884 rfl 1 rfl ?_
    refine e_callVi dL_law_885 cvL_119 rfl tt_0 rfl (c10_undo1 hVK hUK i1 hSK) (Nat.le_of_ble_eq_true rfl) hk hn rfl (Nat.le_of_ble_eq_true rfl) (fun r1 σ1 μ1 q1 => ?_)
    obtain ⟨e1, hq1⟩ := q1
    have hw := wi_un1 hC g1 g2 hq1
    have hR1 := hR.keep hw.2
    have i3 : σ1 127 31 = 1 := (congrFun (hw.2.1 127 (by omega)) 31).trans i2
    have m6 : ∀ q, q < 202 → σ1 148 q = wim σk q := fun q hq => (congrFun (hw.2.1 148 (by omega)) q).trans (m5 q hq)
    refine e_aload_n dL_law_888 rfl 2 rfl ?_
    refine e_callVi dL_law_889 cvL_122 rfl tt_127 rfl (c11_undo1 i3) (Nat.le_of_ble_eq_true rfl) hk hn rfl (Nat.le_of_ble_eq_true rfl) (fun r2 σ2 μ2 q2 => ?_)
    obtain ⟨e2, hq2⟩ := q2
    have hv := wi_un2 hVK hUK hR1 m1 m2 m3 m4 m6 hq2
    have e3 : σ2 127 5 = nI (Kn 0 0) := hv.1.2.1.1
    refine e_icmp_eq (t := 1166) dL_law_892 (by decide) (fun _ => ?_) (fun h => absurd (e1.trans (e2.trans e3).symm) h)
    have hI2 : WI σ Kn := Or.inr ⟨i1, i2, Kn, hVK, hUK, hSK, ⟨σk, m1, m2, m3, m4, m5⟩, Nat.le_refl _, fun _ _ => rfl⟩
    exact K _ _ (LI.mk (WC.keep hVK hw.1 hv.2) hv.1 (hI2.keep hw.2 hv.2 (N2.rf hVK hUK)) hp hVK hUK hT hz hX)

set_option maxRecDepth 100000 in
set_option maxHeartbeats 1000000 in
theorem lc_taken {xs : Nat → Int32} {L i k n n0 mc ms : Nat} {nm : String} {rt : Option FieldType} {Rq : ev_Q} {σ : ex_S} {μ : ex_L} (hi : i + 6 ≤ L) (hL : L ≤ 3072) (hk : k ≤ mc) (hn : n ≤ ms) (W : LI σ μ) (K : ∀ (σ' : ex_S) (μ' : ex_L), LI σ' μ' → Ev RL cL_law 4 100 mc ms nm rt (LX xs L) n0 Rq k n 1166 (LV i) [] TT σ' μ') : Ev RL cL_law 4 100 mc ms nm rt (LX xs L) n0 Rq k n 897 (LV i) [] TT σ μ := by
  obtain ⟨p, S, z, X, t, hp, hV, hU, hT, hz, hX, hC, hR, hI⟩ := W
  obtain ⟨f1, n1, a1, a2, a3, k1, s1, o1, x1, t1⟩ := id hC
  refine e_aload_n dL_law_897 rfl 1 rfl ?_
  refine e_aload_n dL_law_898 rfl 0 rfl ?_
  refine e_iload_n dL_law_899 rfl 3 rfl ?_
  refine e_iconst (v := 1) dL_law_900 rfl ?_
  refine e_iadd dL_law_901 ?_
  refine e_xald (N := L) (f := xs) dL_law_902 lx_in (lw_inc hi hL 1 (by decide)) ?_
  refine e_aload_n dL_law_903 rfl 0 rfl ?_
  refine e_iload_n dL_law_904 rfl 3 rfl ?_
  refine e_iconst (v := 2) dL_law_905 rfl ?_
  refine e_iadd dL_law_906 ?_
  refine e_xald (N := L) (f := xs) dL_law_907 lx_in (lw_inc hi hL 2 (by decide)) ?_
  refine e_callVi dL_law_908 cvL_123 rfl tt_0 rfl (c10_taken hV n1) (Nat.le_of_ble_eq_true rfl) hk hn rfl (Nat.le_of_ble_eq_true rfl) (fun r1 σ1 μ1 q1 => ?_)
  obtain ⟨e1, hq1⟩ := q1
  have hw := wc_taken hp hV hU hC hq1
  have hR1 := hR.keep hw.2
  obtain ⟨f2, n2, b1, b2, b3, x2, t2⟩ := id hR1
  refine e_aload_n dL_law_911 rfl 2 rfl ?_
  refine e_aload_n dL_law_912 rfl 0 rfl ?_
  refine e_iload_n dL_law_913 rfl 3 rfl ?_
  refine e_iconst (v := 1) dL_law_914 rfl ?_
  refine e_iadd dL_law_915 ?_
  refine e_xald (N := L) (f := xs) dL_law_916 lx_in (lw_inc hi hL 1 (by decide)) ?_
  refine e_aload_n dL_law_917 rfl 0 rfl ?_
  refine e_iload_n dL_law_918 rfl 3 rfl ?_
  refine e_iconst (v := 2) dL_law_919 rfl ?_
  refine e_iadd dL_law_920 ?_
  refine e_xald (N := L) (f := xs) dL_law_921 lx_in (lw_inc hi hL 2 (by decide)) ?_
  refine e_callVi dL_law_922 cvL_126 rfl tt_127 rfl (c11_taken hV n2) (Nat.le_of_ble_eq_true rfl) hk hn rfl (Nat.le_of_ble_eq_true rfl) (fun r2 σ2 μ2 q2 => ?_)
  obtain ⟨e2, hq2⟩ := q2
  have hv := wr_taken hp hV hU hR1 hq2
  refine e_icmp_eq (t := 1166) dL_law_925 (by decide) (fun _ => ?_) (fun h => absurd (e1.trans e2.symm) h)
  exact K _ _ (LI.mk (WC.keep (N2.rf hV hU).1 hw.1 hv.2) hv.1 (hI.keep hw.2 hv.2 (N2.rf hV hU)) hp (N2.rf hV hU).1 (N2.rf hV hU).2.1 hT hz hX)

set_option maxRecDepth 100000 in
set_option maxHeartbeats 1000000 in
theorem lc_count {xs : Nat → Int32} {L i k n n0 mc ms : Nat} {nm : String} {rt : Option FieldType} {Rq : ev_Q} {σ : ex_S} {μ : ex_L} (hi : i + 6 ≤ L) (hL : L ≤ 3072) (hk : k ≤ mc) (hn : n ≤ ms) (W : LI σ μ) (K : ∀ (σ' : ex_S) (μ' : ex_L), LI σ' μ' → Ev RL cL_law 4 100 mc ms nm rt (LX xs L) n0 Rq k n 1166 (LV i) [] TT σ' μ') : Ev RL cL_law 4 100 mc ms nm rt (LX xs L) n0 Rq k n 930 (LV i) [] TT σ μ := by
  obtain ⟨p, S, z, X, t, hp, hV, hU, hT, hz, hX, hC, hR, hI⟩ := W
  obtain ⟨f1, n1, a1, a2, a3, k1, s1, o1, x1, t1⟩ := id hC
  refine e_aload_n dL_law_930 rfl 1 rfl ?_
  refine e_aload_n dL_law_931 rfl 0 rfl ?_
  refine e_iload_n dL_law_932 rfl 3 rfl ?_
  refine e_iconst (v := 1) dL_law_933 rfl ?_
  refine e_iadd dL_law_934 ?_
  refine e_xald (N := L) (f := xs) dL_law_935 lx_in (lw_inc hi hL 1 (by decide)) ?_
  refine e_callVi dL_law_936 cvL_127 rfl tt_0 rfl (c10_count n1 a1 a2 a3 x1) (Nat.le_of_ble_eq_true rfl) hk hn rfl (Nat.le_of_ble_eq_true rfl) (fun r1 σ1 μ1 q1 => ?_)
  obtain ⟨e1, hq1⟩ := q1
  have hw := wc_count hp hV hU hC hq1
  have hR1 := hR.keep hw.2
  obtain ⟨f2, n2, b1, b2, b3, x2, t2⟩ := id hR1
  refine e_aload_n dL_law_939 rfl 2 rfl ?_
  refine e_aload_n dL_law_940 rfl 0 rfl ?_
  refine e_iload_n dL_law_941 rfl 3 rfl ?_
  refine e_iconst (v := 1) dL_law_942 rfl ?_
  refine e_iadd dL_law_943 ?_
  refine e_xald (N := L) (f := xs) dL_law_944 lx_in (lw_inc hi hL 1 (by decide)) ?_
  refine e_callVi dL_law_945 cvL_130 rfl tt_127 rfl (c11_count n2 b1 b2 b3 x2) (Nat.le_of_ble_eq_true rfl) hk hn rfl (Nat.le_of_ble_eq_true rfl) (fun r2 σ2 μ2 q2 => ?_)
  obtain ⟨e2, hq2⟩ := q2
  have hv := wr_count hp hV hU hR1 hq2
  refine e_icmp_eq (t := 1166) dL_law_948 (by decide) (fun _ => ?_) (fun h => absurd (e1.trans e2.symm) h)
  exact K _ _ (LI.mk (WC.keep (N2.rf hV hU).1 hw.1 hv.2) hv.1 (hI.keep hw.2 hv.2 (N2.rf hV hU)) hp (N2.rf hV hU).1 (N2.rf hV hU).2.1 hT hz hX)

set_option maxRecDepth 100000 in
set_option maxHeartbeats 1000000 in
theorem lc_tape {xs : Nat → Int32} {L i k n n0 mc ms : Nat} {nm : String} {rt : Option FieldType} {Rq : ev_Q} {σ : ex_S} {μ : ex_L} (hi : i + 6 ≤ L) (hL : L ≤ 3072) (hk : k ≤ mc) (hn : n ≤ ms) (W : LI σ μ) (K : ∀ (σ' : ex_S) (μ' : ex_L), LI σ' μ' → Ev RL cL_law 4 100 mc ms nm rt (LX xs L) n0 Rq k n 1166 (LV i) [] TT σ' μ') : Ev RL cL_law 4 100 mc ms nm rt (LX xs L) n0 Rq k n 953 (LV i) [] TT σ μ := by
  obtain ⟨p, S, z, X, t, hp, hV, hU, hT, hz, hX, hC, hR, hI⟩ := W
  obtain ⟨f1, n1, a1, a2, a3, k1, s1, o1, x1, t1⟩ := id hC
  refine e_aload_n dL_law_953 rfl 1 rfl ?_
  refine e_aload_n dL_law_954 rfl 0 rfl ?_
  refine e_iload_n dL_law_955 rfl 3 rfl ?_
  refine e_iconst (v := 1) dL_law_956 rfl ?_
  refine e_iadd dL_law_957 ?_
  refine e_xald (N := L) (f := xs) dL_law_958 lx_in (lw_inc hi hL 1 (by decide)) ?_
  refine e_aload_n dL_law_959 rfl 0 rfl ?_
  refine e_iload_n dL_law_960 rfl 3 rfl ?_
  refine e_iconst (v := 2) dL_law_961 rfl ?_
  refine e_iadd dL_law_962 ?_
  refine e_xald (N := L) (f := xs) dL_law_963 lx_in (lw_inc hi hL 2 (by decide)) ?_
  refine e_aload_n dL_law_964 rfl 0 rfl ?_
  refine e_iload_n dL_law_965 rfl 3 rfl ?_
  refine e_iconst (v := 3) dL_law_966 rfl ?_
  refine e_iadd dL_law_967 ?_
  refine e_xald (N := L) (f := xs) dL_law_968 lx_in (lw_inc hi hL 3 (by decide)) ?_
  refine e_callVi dL_law_969 cvL_131 rfl tt_0 rfl (c10_tape hT t1) (Nat.le_of_ble_eq_true rfl) hk hn rfl (Nat.le_of_ble_eq_true rfl) (fun r1 σ1 μ1 q1 => ?_)
  obtain ⟨e1, hq1⟩ := q1
  have hw := wc_tape hp hV hU hC hq1
  have hR1 := hR.keep hw.2
  obtain ⟨f2, n2, b1, b2, b3, x2, t2⟩ := id hR1
  refine e_aload_n dL_law_972 rfl 2 rfl ?_
  refine e_aload_n dL_law_973 rfl 0 rfl ?_
  refine e_iload_n dL_law_974 rfl 3 rfl ?_
  refine e_iconst (v := 1) dL_law_975 rfl ?_
  refine e_iadd dL_law_976 ?_
  refine e_xald (N := L) (f := xs) dL_law_977 lx_in (lw_inc hi hL 1 (by decide)) ?_
  refine e_aload_n dL_law_978 rfl 0 rfl ?_
  refine e_iload_n dL_law_979 rfl 3 rfl ?_
  refine e_iconst (v := 2) dL_law_980 rfl ?_
  refine e_iadd dL_law_981 ?_
  refine e_xald (N := L) (f := xs) dL_law_982 lx_in (lw_inc hi hL 2 (by decide)) ?_
  refine e_aload_n dL_law_983 rfl 0 rfl ?_
  refine e_iload_n dL_law_984 rfl 3 rfl ?_
  refine e_iconst (v := 3) dL_law_985 rfl ?_
  refine e_iadd dL_law_986 ?_
  refine e_xald (N := L) (f := xs) dL_law_987 lx_in (lw_inc hi hL 3 (by decide)) ?_
  refine e_callVi dL_law_988 cvL_134 rfl tt_127 rfl (c11_tape hT t2) (Nat.le_of_ble_eq_true rfl) hk hn rfl (Nat.le_of_ble_eq_true rfl) (fun r2 σ2 μ2 q2 => ?_)
  obtain ⟨e2, hq2⟩ := q2
  have hv := wr_tape hp hV hU hR1 hq2
  refine e_icmp_eq (t := 1166) dL_law_991 (by decide) (fun _ => ?_) (fun h => absurd (e1.trans e2.symm) h)
  exact K _ _ (LI.mk (WC.keep (N2.rf hV hU).1 hw.1 hv.2) hv.1 (hI.keep hw.2 hv.2 (N2.rf hV hU)) hp (N2.rf hV hU).1 (N2.rf hV hU).2.1 (ntape_n hT) hz hX)

set_option maxRecDepth 100000 in
set_option maxHeartbeats 1000000 in
theorem lc_item {xs : Nat → Int32} {L i k n n0 mc ms : Nat} {nm : String} {rt : Option FieldType} {Rq : ev_Q} {σ : ex_S} {μ : ex_L} (hi : i + 6 ≤ L) (hL : L ≤ 3072) (hk : k ≤ mc) (hn : n ≤ ms) (W : LI σ μ) (K : ∀ (σ' : ex_S) (μ' : ex_L), LI σ' μ' → Ev RL cL_law 4 100 mc ms nm rt (LX xs L) n0 Rq k n 1166 (LV i) [] TT σ' μ') : Ev RL cL_law 4 100 mc ms nm rt (LX xs L) n0 Rq k n 996 (LV i) [] TT σ μ := by
  obtain ⟨p, S, z, X, t, hp, hV, hU, hT, hz, hX, hC, hR, hI⟩ := W
  obtain ⟨f1, n1, a1, a2, a3, k1, s1, o1, x1, t1⟩ := id hC
  refine e_aload_n dL_law_996 rfl 1 rfl ?_
  refine e_aload_n dL_law_997 rfl 0 rfl ?_
  refine e_iload_n dL_law_998 rfl 3 rfl ?_
  refine e_iconst (v := 1) dL_law_999 rfl ?_
  refine e_iadd dL_law_1000 ?_
  refine e_xald (N := L) (f := xs) dL_law_1001 lx_in (lw_inc hi hL 1 (by decide)) ?_
  refine e_aload_n dL_law_1002 rfl 0 rfl ?_
  refine e_iload_n dL_law_1003 rfl 3 rfl ?_
  refine e_iconst (v := 2) dL_law_1004 rfl ?_
  refine e_iadd dL_law_1005 ?_
  refine e_xald (N := L) (f := xs) dL_law_1006 lx_in (lw_inc hi hL 2 (by decide)) ?_
  refine e_aload_n dL_law_1007 rfl 0 rfl ?_
  refine e_iload_n dL_law_1008 rfl 3 rfl ?_
  refine e_iconst (v := 3) dL_law_1009 rfl ?_
  refine e_iadd dL_law_1010 ?_
  refine e_xald (N := L) (f := xs) dL_law_1011 lx_in (lw_inc hi hL 3 (by decide)) ?_
  refine e_i2l dL_law_1012 ?_
  refine e_bipush (v := 32) dL_law_1013 rfl ?_
  refine e_lshl dL_law_1015 ?_
  refine e_aload_n dL_law_1016 rfl 0 rfl ?_
  refine e_iload_n dL_law_1017 rfl 3 rfl ?_
  refine e_iconst (v := 4) dL_law_1018 rfl ?_
  refine e_iadd dL_law_1019 ?_
  refine e_xald (N := L) (f := xs) dL_law_1020 lx_in (lw_inc hi hL 4 (by decide)) ?_
  refine e_i2l dL_law_1021 ?_
  refine e_ldc2 dL_law_1022 kcL_135 ?_
  refine e_land dL_law_1025 ?_
  refine e_lor dL_law_1026 ?_
  refine e_callVi dL_law_1027 cvL_137 rfl tt_0 rfl (c10_item hT t1) (Nat.le_of_ble_eq_true rfl) hk hn rfl (Nat.le_of_ble_eq_true rfl) (fun r1 σ1 μ1 q1 => ?_)
  obtain ⟨e1, hq1⟩ := q1
  have hw := wc_item hp hV hU hC hq1
  have hR1 := hR.keep hw.2
  obtain ⟨f2, n2, b1, b2, b3, x2, t2⟩ := id hR1
  refine e_aload_n dL_law_1030 rfl 2 rfl ?_
  refine e_aload_n dL_law_1031 rfl 0 rfl ?_
  refine e_iload_n dL_law_1032 rfl 3 rfl ?_
  refine e_iconst (v := 1) dL_law_1033 rfl ?_
  refine e_iadd dL_law_1034 ?_
  refine e_xald (N := L) (f := xs) dL_law_1035 lx_in (lw_inc hi hL 1 (by decide)) ?_
  refine e_aload_n dL_law_1036 rfl 0 rfl ?_
  refine e_iload_n dL_law_1037 rfl 3 rfl ?_
  refine e_iconst (v := 2) dL_law_1038 rfl ?_
  refine e_iadd dL_law_1039 ?_
  refine e_xald (N := L) (f := xs) dL_law_1040 lx_in (lw_inc hi hL 2 (by decide)) ?_
  refine e_aload_n dL_law_1041 rfl 0 rfl ?_
  refine e_iload_n dL_law_1042 rfl 3 rfl ?_
  refine e_iconst (v := 3) dL_law_1043 rfl ?_
  refine e_iadd dL_law_1044 ?_
  refine e_xald (N := L) (f := xs) dL_law_1045 lx_in (lw_inc hi hL 3 (by decide)) ?_
  refine e_i2l dL_law_1046 ?_
  refine e_bipush (v := 32) dL_law_1047 rfl ?_
  refine e_lshl dL_law_1049 ?_
  refine e_aload_n dL_law_1050 rfl 0 rfl ?_
  refine e_iload_n dL_law_1051 rfl 3 rfl ?_
  refine e_iconst (v := 4) dL_law_1052 rfl ?_
  refine e_iadd dL_law_1053 ?_
  refine e_xald (N := L) (f := xs) dL_law_1054 lx_in (lw_inc hi hL 4 (by decide)) ?_
  refine e_i2l dL_law_1055 ?_
  refine e_ldc2 dL_law_1056 kcL_135 ?_
  refine e_land dL_law_1059 ?_
  refine e_lor dL_law_1060 ?_
  refine e_callVi dL_law_1061 cvL_141 rfl tt_127 rfl (c11_item hT t2) (Nat.le_of_ble_eq_true rfl) hk hn rfl (Nat.le_of_ble_eq_true rfl) (fun r2 σ2 μ2 q2 => ?_)
  obtain ⟨e2, hq2⟩ := q2
  have hv := wr_item hp hV hU hR1 hq2
  refine e_icmp_eq (t := 1166) dL_law_1064 (by decide) (fun _ => ?_) (fun h => absurd (e1.trans e2.symm) h)
  exact K _ _ (LI.mk (WC.keep (N2.rf hV hU).1 hw.1 hv.2) hv.1 (hI.keep hw.2 hv.2 (N2.rf hV hU)) hp (N2.rf hV hU).1 (N2.rf hV hU).2.1 (nitem_n hT) hz hX)

set_option maxRecDepth 100000 in
set_option maxHeartbeats 1000000 in
theorem lc_read {xs : Nat → Int32} {L i k n n0 mc ms : Nat} {nm : String} {rt : Option FieldType} {Rq : ev_Q} {σ : ex_S} {μ : ex_L} (hi : i + 6 ≤ L) (hL : L ≤ 3072) (hk : k ≤ mc) (hn : n ≤ ms) (W : LI σ μ) (K : ∀ (σ' : ex_S) (μ' : ex_L), LI σ' μ' → Ev RL cL_law 4 100 mc ms nm rt (LX xs L) n0 Rq k n 1166 (LV i) [] TT σ' μ') : Ev RL cL_law 4 100 mc ms nm rt (LX xs L) n0 Rq k n 1069 (LV i) [] TT σ μ := by
  obtain ⟨p, S, z, X, t, hp, hV, hU, hT, hz, hX, hC, hR, hI⟩ := W
  obtain ⟨f1, n1, a1, a2, a3, k1, s1, o1, x1, t1⟩ := id hC
  refine e_aload_n dL_law_1069 rfl 1 rfl ?_
  refine e_aload_n dL_law_1070 rfl 0 rfl ?_
  refine e_iload_n dL_law_1071 rfl 3 rfl ?_
  refine e_iconst (v := 1) dL_law_1072 rfl ?_
  refine e_iadd dL_law_1073 ?_
  refine e_xald (N := L) (f := xs) dL_law_1074 lx_in (lw_inc hi hL 1 (by decide)) ?_
  refine e_aload_n dL_law_1075 rfl 0 rfl ?_
  refine e_iload_n dL_law_1076 rfl 3 rfl ?_
  refine e_iconst (v := 2) dL_law_1077 rfl ?_
  refine e_iadd dL_law_1078 ?_
  refine e_xald (N := L) (f := xs) dL_law_1079 lx_in (lw_inc hi hL 2 (by decide)) ?_
  refine e_callVl dL_law_1080 cvL_142 rfl tt_0 rfl (c10_read hT t1) (Nat.le_of_ble_eq_true rfl) hk hn rfl (Nat.le_of_ble_eq_true rfl) (fun r1 σ1 μ1 q1 => ?_)
  obtain ⟨e1, hq1⟩ := q1
  have hw := wc_read hp hV hU hC hq1
  have hR1 := hR.keep hw.2
  obtain ⟨f2, n2, b1, b2, b3, x2, t2⟩ := id hR1
  refine e_aload_n dL_law_1083 rfl 2 rfl ?_
  refine e_aload_n dL_law_1084 rfl 0 rfl ?_
  refine e_iload_n dL_law_1085 rfl 3 rfl ?_
  refine e_iconst (v := 1) dL_law_1086 rfl ?_
  refine e_iadd dL_law_1087 ?_
  refine e_xald (N := L) (f := xs) dL_law_1088 lx_in (lw_inc hi hL 1 (by decide)) ?_
  refine e_aload_n dL_law_1089 rfl 0 rfl ?_
  refine e_iload_n dL_law_1090 rfl 3 rfl ?_
  refine e_iconst (v := 2) dL_law_1091 rfl ?_
  refine e_iadd dL_law_1092 ?_
  refine e_xald (N := L) (f := xs) dL_law_1093 lx_in (lw_inc hi hL 2 (by decide)) ?_
  refine e_callVl dL_law_1094 cvL_145 rfl tt_127 rfl (c11_read hT t2) (Nat.le_of_ble_eq_true rfl) hk hn rfl (Nat.le_of_ble_eq_true rfl) (fun r2 σ2 μ2 q2 => ?_)
  obtain ⟨e2, hq2⟩ := q2
  have hv := wr_read hp hV hU hR1 hq2
  refine e_lcmp dL_law_1097 ?_
  refine e_if_eq (t := 1166) dL_law_1098 (by decide) (fun _ => ?_) (fun h => absurd (by rw [e1, e2]; exact lc_self _) h)
  exact K _ _ (LI.mk (WC.keep (N2.rf hV hU).1 hw.1 hv.2) hv.1 (hI.keep hw.2 hv.2 (N2.rf hV hU)) hp (N2.rf hV hU).1 (N2.rf hV hU).2.1 hT hz hX)

set_option maxRecDepth 100000 in
set_option maxHeartbeats 1000000 in
theorem lc_shift {xs : Nat → Int32} {L i k n n0 mc ms : Nat} {nm : String} {rt : Option FieldType} {Rq : ev_Q} {σ : ex_S} {μ : ex_L} (hi : i + 6 ≤ L) (hL : L ≤ 3072) (hk : k ≤ mc) (hn : n ≤ ms) (W : LI σ μ) (K : ∀ (σ' : ex_S) (μ' : ex_L), LI σ' μ' → Ev RL cL_law 4 100 mc ms nm rt (LX xs L) n0 Rq k n 1166 (LV i) [] TT σ' μ') : Ev RL cL_law 4 100 mc ms nm rt (LX xs L) n0 Rq k n 1103 (LV i) [] TT σ μ := by
  obtain ⟨p, S, z, X, t, hp, hV, hU, hT, hz, hX, hC, hR, hI⟩ := W
  obtain ⟨f1, n1, a1, a2, a3, k1, s1, o1, x1, t1⟩ := id hC
  refine e_aload_n dL_law_1103 rfl 1 rfl ?_
  refine e_aload_n dL_law_1104 rfl 0 rfl ?_
  refine e_iload_n dL_law_1105 rfl 3 rfl ?_
  refine e_iconst (v := 1) dL_law_1106 rfl ?_
  refine e_iadd dL_law_1107 ?_
  refine e_xald (N := L) (f := xs) dL_law_1108 lx_in (lw_inc hi hL 1 (by decide)) ?_
  refine e_aload_n dL_law_1109 rfl 0 rfl ?_
  refine e_iload_n dL_law_1110 rfl 3 rfl ?_
  refine e_iconst (v := 2) dL_law_1111 rfl ?_
  refine e_iadd dL_law_1112 ?_
  refine e_xald (N := L) (f := xs) dL_law_1113 lx_in (lw_inc hi hL 2 (by decide)) ?_
  refine e_aload_n dL_law_1114 rfl 0 rfl ?_
  refine e_iload_n dL_law_1115 rfl 3 rfl ?_
  refine e_iconst (v := 3) dL_law_1116 rfl ?_
  refine e_iadd dL_law_1117 ?_
  refine e_xald (N := L) (f := xs) dL_law_1118 lx_in (lw_inc hi hL 3 (by decide)) ?_
  refine e_aload_n dL_law_1119 rfl 0 rfl ?_
  refine e_iload_n dL_law_1120 rfl 3 rfl ?_
  refine e_iconst (v := 4) dL_law_1121 rfl ?_
  refine e_iadd dL_law_1122 ?_
  refine e_xald (N := L) (f := xs) dL_law_1123 lx_in (lw_inc hi hL 4 (by decide)) ?_
  refine e_aload_n dL_law_1124 rfl 0 rfl ?_
  refine e_iload_n dL_law_1125 rfl 3 rfl ?_
  refine e_iconst (v := 5) dL_law_1126 rfl ?_
  refine e_iadd dL_law_1127 ?_
  refine e_xald (N := L) (f := xs) dL_law_1128 lx_in (lw_inc hi hL 5 (by decide)) ?_
  refine e_callVi dL_law_1129 cvL_146 rfl tt_0 rfl (c10_shift hT t1) (Nat.le_of_ble_eq_true rfl) hk hn rfl (Nat.le_of_ble_eq_true rfl) (fun r1 σ1 μ1 q1 => ?_)
  obtain ⟨e1, hq1⟩ := q1
  have hw := wc_shift hp hV hU hC hq1
  have hR1 := hR.keep hw.2
  obtain ⟨f2, n2, b1, b2, b3, x2, t2⟩ := id hR1
  refine e_aload_n dL_law_1132 rfl 2 rfl ?_
  refine e_aload_n dL_law_1133 rfl 0 rfl ?_
  refine e_iload_n dL_law_1134 rfl 3 rfl ?_
  refine e_iconst (v := 1) dL_law_1135 rfl ?_
  refine e_iadd dL_law_1136 ?_
  refine e_xald (N := L) (f := xs) dL_law_1137 lx_in (lw_inc hi hL 1 (by decide)) ?_
  refine e_aload_n dL_law_1138 rfl 0 rfl ?_
  refine e_iload_n dL_law_1139 rfl 3 rfl ?_
  refine e_iconst (v := 2) dL_law_1140 rfl ?_
  refine e_iadd dL_law_1141 ?_
  refine e_xald (N := L) (f := xs) dL_law_1142 lx_in (lw_inc hi hL 2 (by decide)) ?_
  refine e_aload_n dL_law_1143 rfl 0 rfl ?_
  refine e_iload_n dL_law_1144 rfl 3 rfl ?_
  refine e_iconst (v := 3) dL_law_1145 rfl ?_
  refine e_iadd dL_law_1146 ?_
  refine e_xald (N := L) (f := xs) dL_law_1147 lx_in (lw_inc hi hL 3 (by decide)) ?_
  refine e_aload_n dL_law_1148 rfl 0 rfl ?_
  refine e_iload_n dL_law_1149 rfl 3 rfl ?_
  refine e_iconst (v := 4) dL_law_1150 rfl ?_
  refine e_iadd dL_law_1151 ?_
  refine e_xald (N := L) (f := xs) dL_law_1152 lx_in (lw_inc hi hL 4 (by decide)) ?_
  refine e_aload_n dL_law_1153 rfl 0 rfl ?_
  refine e_iload_n dL_law_1154 rfl 3 rfl ?_
  refine e_iconst (v := 5) dL_law_1155 rfl ?_
  refine e_iadd dL_law_1156 ?_
  refine e_xald (N := L) (f := xs) dL_law_1157 lx_in (lw_inc hi hL 5 (by decide)) ?_
  refine e_callVi dL_law_1158 cvL_150 rfl tt_127 rfl (c11_shift hT t2) (Nat.le_of_ble_eq_true rfl) hk hn rfl (Nat.le_of_ble_eq_true rfl) (fun r2 σ2 μ2 q2 => ?_)
  obtain ⟨e2, hq2⟩ := q2
  have hv := wr_shift hp hV hU hR1 hq2
  refine e_icmp_eq (t := 1166) dL_law_1161 (by decide) (fun _ => ?_) (fun h => absurd (e1.trans e2.symm) h)
  exact K _ _ (LI.mk (WC.keep (N2.rf hV hU).1 hw.1 hv.2) hv.1 (hI.keep hw.2 hv.2 (N2.rf hV hU)) hp (N2.rf hV hU).1 (N2.rf hV hU).2.1 (nshift_n hT) hz hX)

