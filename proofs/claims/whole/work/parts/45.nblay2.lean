section
variable {M : Mem} {x : List Nat} {t : GT}
theorem s_planCopy {post : Mem → Prop} (k : ∀ M', M' 4 6 = M 11 6 → (∀ j, j < 7 → M' 5 j = M 12 j ∧ M' 6 j = M 13 j ∧ M' 7 j = M 14 j ∧ M' 8 j = M 15 j ∧ M' 9 j = M 16 j ∧ M' 10 j = M 17 j) → Fx 4 11 M M' → post M') : P_Plan_copyFrom M 4 11 post := by
  intro R18 k18
  have L : ∀ i, i ≤ 7 → ∀ M1, (M1 4 6 = M 11 6 ∧ (∀ j, j < i → M1 5 j = M 12 j ∧ M1 6 j = M 13 j ∧ M1 7 j = M 14 j ∧ M1 8 j = M 15 j ∧ M1 9 j = M 16 j ∧ M1 10 j = M 17 j) ∧ Fx 4 11 M M1) → R18 M1 (nI i) := by
    refine up_loop (fun i hi ih M1 q => ?_) (fun M1 q => ?_)
    · apply k18
      unfold B_Plan_copyFrom_18
      simp (disch := omega) only [cl, nI_1, forall_eq]
      refine br_f (nI_ge (b := 7) hi (by decide)) ⟨vin (by omega) (by decide), vin (by omega) (by decide), vin (by omega) (by decide), vin (by omega) (by decide), vin (by omega) (by decide), vin (by omega) (by decide), vin (by omega) (by decide), vin (by omega) (by decide), vin (by omega) (by decide), vin (by omega) (by decide), vin (by omega) (by decide), vin (by omega) (by decide), ?_⟩
      obtain ⟨q1, q3, q4⟩ := q
      apply ih
      simp (disch := omega) only [ms_k]
      refine ⟨q1, fun j hj => ?_, ?_⟩
      · by_cases e : j = i
        · subst e
          simp (disch := omega) only [ms_s, ms_k, q4 12 (by omega), q4 13 (by omega), q4 14 (by omega), q4 15 (by omega), q4 16 (by omega), q4 17 (by omega), and_self]
        · simp (disch := omega) only [ms_j e]
          exact q3 j (by omega)
      · exact (((((q4.set (by omega) (by omega)).set (by omega) (by omega)).set (by omega) (by omega)).set (by omega) (by omega)).set (by omega) (by omega)).set (by omega) (by omega)
    · apply k18
      unfold B_Plan_copyFrom_18
      exact br_t (nI_le (Nat.le_refl 7) (by decide)) (k _ q.1 q.2.1 q.2.2)
  unfold B_Plan_copyFrom_i
  simp only [forall_eq]
  refine L 0 (by decide) _ ⟨?_, fun j hj => absurd hj (Nat.not_lt_zero _), (Fx.rf.set (by omega) (by omega)).set (by omega) (by omega)⟩
  rw [ms_j (by decide), ms_s]
theorem s_open {post : Mem → Prop} {n : Nat} {u r : Nat → Nat} (h7 : n ≤ 7) (hu : ∀ g, g < n → M 6 g = nI (u g) ∧ M 10 g = nI (r g)) (k : ∀ M', HR M' 18 n (0, none, fun _ => 0, u, r, fun _ => 0, fun _ => none, fun _ => 0, fun _ => 0) → Fr 18 M M' → post M') : P_House_open M 18 post := by
  intro R13 k13
  have L : ∀ i, i ≤ 7 → ∀ M1, (M1 18 8 = -4 ∧ M1 18 9 = 0 ∧ (∀ j, j < i → M1 19 j = 0 ∧ M1 20 j = M 6 j ∧ M1 21 j = M 10 j ∧ M1 22 j = 0 ∧ M1 23 j = -4 ∧ M1 24 j = 0 ∧ M1 25 j = 0) ∧ Fr 18 M M1) → R13 M1 (nI i) := by
    refine up_loop (fun i hi ih M1 q => ?_) (fun M1 q => ?_)
    · apply k13
      unfold B_House_open_13
      simp (disch := omega) only [cl, nI_1, forall_eq]
      refine br_f (nI_ge (b := 7) hi (by decide)) ⟨vin (by omega) (by decide), vin (by omega) (by decide), vin (by omega) (by decide), vin (by omega) (by decide), vin (by omega) (by decide), vin (by omega) (by decide), vin (by omega) (by decide), vin (by omega) (by decide), vin (by omega) (by decide), ?_⟩
      obtain ⟨q1, q2, q3, q4⟩ := q
      apply ih
      simp (disch := omega) only [ms_k]
      refine ⟨q1, q2, fun j hj => ?_, ?_⟩
      · by_cases e : j = i
        · subst e
          simp (disch := omega) only [ms_s, ms_k, q4 6 (by omega), q4 10 (by omega), and_self]
        · simp (disch := omega) only [ms_j e]
          exact q3 j (by omega)
      · exact ((((((q4.set (by omega) (by omega)).set (by omega) (by omega)).set (by omega) (by omega)).set (by omega) (by omega)).set (by omega) (by omega)).set (by omega) (by omega)).set (by omega) (by omega)
    · apply k13
      unfold B_House_open_13
      refine br_t (nI_le (Nat.le_refl 7) (by decide)) (k _ ⟨q.2.1, q.1, fun j hj => ?_⟩ q.2.2.2)
      obtain ⟨x1, x2, x3, x4, x5, x6, x7⟩ := q.2.2.1 j (by omega)
      exact ⟨x1, x2.trans (hu j hj).1, x3.trans (hu j hj).2, x4, x5, x6, x7⟩
  unfold B_House_open_i
  simp only [forall_eq]
  refine L 0 (by decide) _ ⟨by rw [ms_j (by decide), ms_s], ms_s _ _ _ _, fun j hj => absurd hj (Nat.not_lt_zero _), (Fr.rf.set (by omega) (by omega)).set (by omega) (by omega)⟩
/-- a shelf with nothing on it -/
theorem s_shclr {post : Mem → Prop} {a ln n n2 : Nat} {l : List HT} (k : SF M a ln n l) (kk : ∀ M', SF M' a ln n2 [] → (∀ q, q ≠ a → M' q = M q) → post M') : P_Shelf_clear M a ln post := by
  unfold P_Shelf_clear B_Shelf_clear_i
  simp only [forall_eq]
  obtain ⟨k1, k2, ad, k3, k4, k5, k6⟩ := k
  refine kk _ ⟨Nat.zero_le _, ms_s _ _ _ _, ad, fun i hi => by rw [ms_k (by omega)]; exact k3 i hi, k4, k5, fun i h hh => by cases hh⟩ (fun q hq => mset_ne hq)
/-- the class lays: what it needs of its memory is less than all that holds between calls -/
theorem s_layS {post : Int32 → Mem → Prop} {n0 : Nat} {l40 l106 : List HT} (tx : TX M x) (hl : x.length ≤ 200) (hx : ∀ c, c ∈ x → c < 127) (S1 : SF M 40 8 n0 l40) (S2 : SF M 106 2 n0 l106)
    (k0 : (∀ t, prs x 201 0 ([], []) = .inr t → t.1.length = 0) → ∀ M', FT M M' → post 0 M') (k1 : ∀ t, prs x 201 0 ([], []) = .inr t → okT t → ¬ t.1.length = 0 → ∀ M', RX (mST (ptT t) (htT t) [] [] x []) M' → post 1 M') : P_NB_layScript M post := by
  unfold P_NB_layScript B_NB_layScript_i
  refine s_into tx hl hx (fun i e hi M1 f => ?_) (fun t e o M1 D f => ?_)
  · exact ⟨fun _ => k0 (fun t z => by rw [e] at z; cases z) M1 f, fun z => absurd z (nI_ne4 hi)⟩
  · refine brn_t rfl ?_
    rw [D.1]
    by_cases c : t.1.length = 0
    · refine br_f (fun z => ?_) (k0 (fun t2 z => by rw [e] at z; cases z; exact c) M1 f)
      have := (nI_leI (a := 1) (b := t.1.length) (by decide) (by have := o.1; omega)).mp z
      omega
    · have h7 := o.1
      refine br_t (nI_le (a := 1) (by omega) (by omega)) (s_planCopy (fun M2 p1 p2 f2 => ?_))
      have hu : ∀ g, g < t.1.length → M2 6 g = nI (hU (htT t) g) ∧ M2 10 g = nI (hR (htT t) g) := fun g hg => by
        obtain ⟨-, y2, -, -, -, y6⟩ := p2 g (by omega)
        exact ⟨y2.trans (D.2.2.1 g hg).2.1, y6.trans (D.2.2.2 g (by omega))⟩
      refine s_open h7 hu (fun M3 q3 f3 => ?_)
      have S1' : SF M3 40 8 n0 l40 := S1.of (fun q h1 h2 => by rw [f3 q (by omega), f2 q (by omega)]; exact f q (by omega) (by omega))
      have S2' : SF M3 106 2 n0 l106 := S2.of (fun q h1 h2 => by rw [f3 q (by omega), f2 q (by omega)]; exact f q (by omega) (by omega))
      refine s_shclr (n2 := t.1.length) S1' (fun M4 q4 f4 => ?_)
      refine s_shclr (n2 := t.1.length) (S2'.of (fun q h1 h2 => f4 q (by omega))) (fun M5 q5 f5 => ?_)
      unfold P_Sightings_clear B_Sightings_clear_i P_Dealing_goStale B_Dealing_goStale_i
      simp only [forall_eq]
      have g0 : ∀ q, q ≠ 142 → q ≠ 124 → mset (mset (mset M5 142 6 0) 142 8 1) 124 10 1 q = M5 q := fun q h1 h2 => by rw [mset_ne h2, mset_ne h1, mset_ne h1]
      have g3 : ∀ q, q ≠ 40 → q ≠ 106 → M5 q = M3 q := fun q h1 h2 => by rw [f5 q h2, f4 q h1]
      refine k1 t e o c _ ⟨?_, ?_, ?_, ?_, ?_, ?_, Or.inl (ms_s _ _ _ _), Or.inl ?_⟩
      · refine ⟨?_, fun g hg => ?_⟩
        · rw [g0 4 (by decide) (by decide), g3 4 (by decide) (by decide), f3 4 (by decide), p1]; exact D.1
        · have hg : g < t.1.length := hg
          obtain ⟨y1, y2, y3, y4, y5, y6⟩ := p2 g (by omega)
          obtain ⟨z1, z2, z3, z4, z5⟩ := D.2.2.1 g hg
          have gg : ∀ q, q < 11 → mset (mset (mset M5 142 6 0) 142 8 1) 124 10 1 q = M2 q := fun q hq => by rw [g0 q (by omega) (by omega), g3 q (by omega) (by omega), f3 q (by omega)]
          rw [gg (4 + 1) (by decide), gg (4 + 3) (by decide), gg (4 + 4) (by decide), gg (4 + 5) (by decide)]
          exact ⟨y1.trans z1, y3.trans z3, y4.trans z4, y5.trans z5⟩
      · exact HR.of q3 (fun q h1 h2 => by rw [g0 q (by omega) (by omega), g3 q (by omega) (by omega)])
      · exact (q4.of (fun q h1 h2 => f5 q (by omega))).of (fun q h1 h2 => g0 q (by omega) (by omega))
      · exact q5.of (fun q h1 h2 => g0 q (by omega) (by omega))
      · show TX _ x
        unfold TX
        rw [g0 1 (by decide) (by decide), g0 2 (by decide) (by decide), g3 1 (by decide) (by decide), g3 2 (by decide) (by decide), f3 1 (by decide), f3 2 (by decide), f2 1 (by decide), f2 2 (by decide), f 1 (by decide) (by decide), f 2 (by decide) (by decide)]
        exact tx
      · refine ⟨?_, fun i q hq => by cases hq⟩
        rw [ms_k (by decide), ms_j (by decide), ms_s]; rfl
      · rw [ms_k (by decide), ms_s]
theorem x_fault {T : Nat} {s : ST} {post : Int32 → Mem → Prop} (I : IX T s) (R : RX s M) (k : ∀ M', RX (fFault s).2 M' → post (fFault s).1 M') : P_NB_fault M post := by
  have hl : (xX s).length ≤ 200 := I.2.2.2.2.2.2.2.1
  have hx : ∀ c, c ∈ xX s → c < 127 := I.2.2.2.2.2.2.2.2.1
  unfold P_NB_fault B_NB_fault_i
  unfold fFault at k
  have RF : ∀ M1, FT M M1 → RX s M1 := fun M1 f => by
    obtain ⟨R1, R2, R3, R4, R5, R7, R8, R9⟩ := R
    refine ⟨R1.of (fun q _ _ => f q (by omega) (by omega)), R2.of (fun q _ _ => f q (by omega) (by omega)), R3.of (fun q _ _ => f q (by omega) (by omega)), R4.of (fun q _ _ => f q (by omega) (by omega)), ?_, ?_, ?_, ?_⟩
    · unfold TX; rw [f 1 (by decide) (by decide), f 2 (by decide) (by decide)]; exact R5
    · unfold SN; rw [f 142 (by decide) (by decide), f 143 (by decide) (by decide), f 144 (by decide) (by decide)]; exact R7
    · unfold DOK; rw [f 124 (by decide) (by decide), f 127 (by decide) (by decide)]; exact R8
    · unfold SOK; rw [f 142 (by decide) (by decide), f 146 (by decide) (by decide)]; exact R9
  refine s_into R.2.2.2.2.1 hl hx (fun i e hi M1 f => ?_) (fun t e o M1 D f => ?_)
  · rw [e] at k; exact k M1 (RF M1 f)
  · rw [e] at k; exact k M1 (RF M1 f)
theorem x_lay {T : Nat} {s : ST} {post : Int32 → Mem → Prop} (I : IX T s) (R : RX s M) (k : ∀ M', RX (fLay s).2 M' → post (fLay s).1 M') : P_NB_lay M post := by
  have hl : (xX s).length ≤ 200 := I.2.2.2.2.2.2.2.1
  have hx : ∀ c, c ∈ xX s → c < 127 := I.2.2.2.2.2.2.2.2.1
  unfold P_NB_lay B_NB_lay_i
  unfold fLay at k
  have RF : ∀ M1, FT M M1 → RX s M1 := fun M1 f => by
    obtain ⟨R1, R2, R3, R4, R5, R7, R8, R9⟩ := R
    refine ⟨R1.of (fun q _ _ => f q (by omega) (by omega)), R2.of (fun q _ _ => f q (by omega) (by omega)), R3.of (fun q _ _ => f q (by omega) (by omega)), R4.of (fun q _ _ => f q (by omega) (by omega)), ?_, ?_, ?_, ?_⟩
    · unfold TX; rw [f 1 (by decide) (by decide), f 2 (by decide) (by decide)]; exact R5
    · unfold SN; rw [f 142 (by decide) (by decide), f 143 (by decide) (by decide), f 144 (by decide) (by decide)]; exact R7
    · unfold DOK; rw [f 124 (by decide) (by decide), f 127 (by decide) (by decide)]; exact R8
    · unfold SOK; rw [f 142 (by decide) (by decide), f 146 (by decide) (by decide)]; exact R9
  refine s_layS R.2.2.2.2.1 hl hx R.2.2.1 R.2.2.2.1 (fun z M1 f => br_t rfl ?_) (fun t e o c M1 R1 => br_f (by decide) ?_)
  · cases e : prs (xX s) 201 0 ([], []) with
    | inl i => rw [e] at k; exact k M1 (RF M1 f)
    | inr t => rw [e] at k; simp only [if_pos (z t e)] at k; exact k M1 (RF M1 f)
  · rw [e] at k
    simp only [if_neg c] at k
    rw [R1.1.1]
    exact k M1 R1
end
