/-! the reference's lines: elimination by columns -/
/-- lines i, i + 1, .. (m of them) -/
def lu (V : Nat → Nat) : Nat → Nat → List Nat
  | 0, _ => []
  | m + 1, i => V i :: lu V m (i + 1)
theorem lu_mem {V : Nat → Nat} {v : Nat} : ∀ {m i : Nat}, v ∈ lu V m i ↔ ∃ j, i ≤ j ∧ j < i + m ∧ v = V j
  | 0, i => ⟨fun h => absurd h List.not_mem_nil, fun ⟨j, h1, h2, _⟩ => by omega⟩
  | m + 1, i => by
    show v ∈ V i :: lu V m (i + 1) ↔ _
    rw [List.mem_cons, lu_mem]
    constructor
    · rintro (rfl | ⟨j, h1, h2, rfl⟩)
      · exact ⟨i, by omega, by omega, rfl⟩
      · exact ⟨j, by omega, by omega, rfl⟩
    · rintro ⟨j, h1, h2, rfl⟩
      by_cases e : j = i
      · subst e; exact Or.inl rfl
      · exact Or.inr ⟨j, by omega, by omega, rfl⟩
/-- a column that all lines have 0 at -/
theorem sp_col {p : Nat} (h : gP p) {q : Nat} (hq : q < 6) : ∀ {ws : List Nat} {v : Nat}, (∀ w ∈ ws, nib w q = 0) → Sp p ws v → nib v q = 0
  | [], v, _, hv => by
    rw [show v = 0 from hv]
    exact nib_0 q
  | w :: ws, v, hw, ⟨c, hc, hv⟩ => by
    have h1 := sp_col h hq (fun x hx => hw x (List.mem_cons_of_mem _ hx)) hv
    rw [nib_xor, gsc_nib h hc hq, hw w List.mem_cons_self, gmul_comm h _ (by decide) _ hc, gmul_zero h _ hc, Nat.xor_zero] at h1
    exact h1
def SameSp (p L : Nat) (V V' : Nat → Nat) : Prop := ∀ v, Sp p (lu V L 0) v ↔ Sp p (lu V' L 0) v
/-- what holds when the columns below c are done, with k lines of their own -/
def Eli (p L : Nat) (V0 V : Nat → Nat) (c k : Nat) : Prop :=
  (∀ j, j < L → V j < 2 ^ 24) ∧ k ≤ L ∧ k ≤ c ∧ SameSp p L V0 V ∧ (∀ j, k ≤ j → j < L → ∀ c', c' < c → nib (V j) c' = 0) ∧
  ∃ piv : Nat → Nat, ∀ i, i < k → piv i < c ∧ nib (V i) (piv i) ≠ 0 ∧ ∀ j, i < j → j < L → nib (V j) (piv i) = 0
theorem Vs_lu {V : Nat → Nat} {L : Nat} (h : ∀ j, j < L → V j < 2 ^ 24) : ∀ {m i : Nat}, i + m ≤ L → Vs (lu V m i) := fun hm v hv => by
  obtain ⟨j, h1, h2, rfl⟩ := lu_mem.mp hv
  exact h j (by omega)
theorem Eli_0 {p L : Nat} {V : Nat → Nat} (h : ∀ j, j < L → V j < 2 ^ 24) : Eli p L V V 0 0 :=
  ⟨h, Nat.zero_le _, Nat.le_refl _, fun _ => Iff.rfl, fun j _ _ c' hc => absurd hc (by omega), fun _ => 0, fun i hi => absurd hi (by omega)⟩
theorem Eli_none {p L : Nat} {V0 V : Nat → Nat} {c k : Nat} (h : Eli p L V0 V c k) (hz : ∀ j, k ≤ j → j < L → nib (V j) c = 0) : Eli p L V0 V (c + 1) k := by
  obtain ⟨e1, e2, e3, e4, e5, piv, e6⟩ := h
  refine ⟨e1, e2, by omega, e4, fun j h1 h2 c' hc => ?_, piv, fun i hi => ⟨by have := (e6 i hi).1; omega, (e6 i hi).2⟩⟩
  by_cases e : c' = c
  · rw [e]; exact hz j h1 h2
  · exact e5 j h1 h2 c' (by omega)
theorem same_swap {p : Nat} (h : gP p) {L : Nat} {V V' : Nat → Nat} {a b : Nat} (hV : ∀ j, j < L → V j < 2 ^ 24) (ha : a < L) (hb : b < L) (h1 : V' a = V b) (h2 : V' b = V a) (h3 : ∀ j, j < L → j ≠ a → j ≠ b → V' j = V j) : SameSp p L V V' := by
  have hV' : ∀ j, j < L → V' j < 2 ^ 24 := fun j hj => by
    by_cases ea : j = a
    · rw [ea, h1]; exact hV b hb
    · by_cases eb : j = b
      · rw [eb, h2]; exact hV a ha
      · rw [h3 j hj ea eb]; exact hV j hj
  have hm : ∀ v, v ∈ lu V L 0 ↔ v ∈ lu V' L 0 := by
    intro v
    rw [lu_mem, lu_mem]
    constructor
    · rintro ⟨j, -, hj, rfl⟩
      by_cases ea : j = a
      · exact ⟨b, by omega, by omega, by rw [h2, ea]⟩
      · by_cases eb : j = b
        · exact ⟨a, by omega, by omega, by rw [h1, eb]⟩
        · exact ⟨j, by omega, hj, (h3 j (by omega) ea eb).symm⟩
    · rintro ⟨j, -, hj, rfl⟩
      by_cases ea : j = a
      · exact ⟨b, by omega, by omega, by rw [ea, h1]⟩
      · by_cases eb : j = b
        · exact ⟨a, by omega, by omega, by rw [eb, h2]⟩
        · exact ⟨j, by omega, hj, h3 j (by omega) ea eb⟩
  intro v
  exact ⟨sp_sub h (Vs_lu hV' (by omega)) (fun u hu => (hm u).mp hu), sp_sub h (Vs_lu hV (by omega)) (fun u hu => (hm u).mpr hu)⟩
theorem same_add {p : Nat} (h : gP p) {L : Nat} {V V' : Nat → Nat} {a b m : Nat} (hV : ∀ j, j < L → V j < 2 ^ 24) (ha : a < L) (hb : b < L) (hab : a ≠ b) (hm : m < 16) (h1 : V' b = V b ^^^ gsc p (V a) m) (h3 : ∀ j, j < L → j ≠ b → V' j = V j) : SameSp p L V V' := by
  have hV' : ∀ j, j < L → V' j < 2 ^ 24 := fun j hj => by
    by_cases eb : j = b
    · rw [eb, h1]; exact xor_lt24 (hV b hb) (gsc_lt h hm)
    · rw [h3 j hj eb]; exact hV j hj
  have hW := Vs_lu hV (m := L) (i := 0) (by omega)
  have hW' := Vs_lu hV' (m := L) (i := 0) (by omega)
  have mem : ∀ j, j < L → V j ∈ lu V L 0 := fun j hj => lu_mem.mpr ⟨j, by omega, by omega, rfl⟩
  have mem' : ∀ j, j < L → V' j ∈ lu V' L 0 := fun j hj => lu_mem.mpr ⟨j, by omega, by omega, rfl⟩
  intro v
  refine ⟨sp_trans h fun u hu => ?_, sp_trans h fun u hu => ?_⟩
  · obtain ⟨j, -, hj, rfl⟩ := lu_mem.mp hu
    by_cases eb : j = b
    · rw [eb]
      have g1 := sp_mem h hW' (mem' b hb)
      have g2 := sp_mem h hW' (mem' a ha)
      rw [h3 a ha hab] at g2
      have g3 := sp_add h g1 (sp_smul h hm g2)
      rwa [h1, xx] at g3
    · rw [← h3 j (by omega) eb]
      exact sp_mem h hW' (mem' j (by omega))
  · obtain ⟨j, -, hj, rfl⟩ := lu_mem.mp hu
    by_cases eb : j = b
    · rw [eb, h1]
      exact sp_add h (sp_mem h hW (mem b hb)) (sp_smul h hm (sp_mem h hW (mem a ha)))
    · rw [h3 j (by omega) eb]
      exact sp_mem h hW (mem j (by omega))
/-- the rank, when what is left is 0 -/
theorem Eli_rank {p : Nat} (h : gP p) {L : Nat} {V0 V : Nat → Nat} {k : Nat} (h0 : ∀ j, j < L → V0 j < 2 ^ 24) (hE : Eli p L V0 V 5 k) (hz : ∀ j, k ≤ j → j < L → nib (V j) 5 = 0) : grk p (lu V0 L 0) = k := by
  obtain ⟨e1, e2, e3, e4, e5, piv, e6⟩ := hE
  rw [grk_same h (Vs_lu h0 (by omega)) (Vs_lu e1 (by omega)) (fun v _ => e4 v)]
  have hr : ∀ m i, i + m = L → grk p (lu V m i) = k - i := by
    intro m
    induction m with
    | zero =>
      intro i hi
      show 0 = k - i
      omega
    | succ m ih =>
      intro i hi
      have h1 := ih (i + 1) (by omega)
      show grk p (V i :: lu V m (i + 1)) = _
      by_cases hik : i < k
      · rw [grk_new, h1]
        · omega
        · intro hs
          obtain ⟨q1, q2, q3⟩ := e6 i hik
          refine q2 (sp_col h (by omega) (fun w hw => ?_) hs)
          obtain ⟨j, g1, g2, rfl⟩ := lu_mem.mp hw
          exact q3 j (by omega) (by omega)
      · have hv : V i = 0 := nib_0_all (e1 i (by omega)) (fun j hj => by
          by_cases e : j = 5
          · rw [e]; exact hz i (by omega) (by omega)
          · exact e5 i (by omega) (by omega) j (by omega))
        rw [hv, grk_told (sp_0 h _), h1]
        omega
  exact hr L 0 (by omega)
/-- the lines as the reference's cells have them -/
def MV (σ : ex_S) (V : Nat → Nat) (L : Nat) : Prop := σ 127 35 = nI L ∧ ∀ j, j < L → ∀ c, c < 6 → σ 150 (6 * j + c) = nI (nib (V j) c)
/-- what the reference's scratch lines leave alone -/
def FrM (σ σ' : ex_S) : Prop := (∀ i, i ≠ 127 → i ≠ 150 → σ' i = σ i) ∧ ∀ k, k ≠ 35 → σ' 127 k = σ 127 k
theorem FrM.rf {σ : ex_S} : FrM σ σ := ⟨fun _ _ _ => rfl, fun _ _ => rfl⟩
theorem FrM.tr {σ σ' σ2 : ex_S} (h : FrM σ σ') (h2 : FrM σ' σ2) : FrM σ σ2 := ⟨fun i a b => (h2.1 i a b).trans (h.1 i a b), fun k a => (h2.2 k a).trans (h.2 k a)⟩
theorem FR.to {σ σ' : ex_S} {p : Nat} (h : FR σ p) (hf : FrM σ σ') : FR σ' p := by
  obtain ⟨a1, a2, a3, a4, a5⟩ := h
  refine ⟨by rw [hf.2 0 (by decide)]; exact a1, by rw [hf.2 1 (by decide)]; exact a2, fun a ha b hb => by rw [hf.1 128 (by decide) (by decide)]; exact a3 a ha b hb, fun n hn => by rw [hf.1 129 (by decide) (by decide)]; exact a4 n hn, fun x hx h0 => by rw [hf.1 130 (by decide) (by decide)]; exact a5 x hx h0⟩
theorem NR.to {σ σ' : ex_S} {S : ns_T} (h : NR σ S) (hf : FrM σ σ') : NR σ' S := by
  obtain ⟨n1, n2, n3, n4, n5⟩ := h
  refine ⟨by rw [hf.2 5 (by decide)]; exact n1, by rw [hf.2 6 (by decide)]; exact n2, by rw [hf.2 7 (by decide)]; exact n3, fun j hj => ?_, fun e he => ?_⟩
  · rw [hf.1 131 (by decide) (by decide), hf.1 132 (by decide) (by decide), hf.1 133 (by decide) (by decide), hf.1 134 (by decide) (by decide), hf.1 135 (by decide) (by decide), hf.1 136 (by decide) (by decide), hf.1 137 (by decide) (by decide)]
    exact n4 j hj
  · rw [hf.1 138 (by decide) (by decide), hf.1 139 (by decide) (by decide)]
    exact n5 e he
theorem i_lin6 (a b : Nat) : (6 : Int32) * nI a + nI b = nI (6 * a + b) := by
  rw [show (6 : Int32) = nI 6 from rfl, i_mul, i_add]
