section
variable {N : Mem} {x : List Nat} {t : GT} {s : ST} {T : Nat}
/-- what beginning leaves as it was -/
def BB (N N' : Mem) : Prop := N' 0 12 = N 0 12 ∧ N' 8 = N 8 ∧ N' 9 = N 9 ∧ N' 10 = N 10
theorem BB.set {N N1 : Mem} {q i : Nat} {v : Int32} (a : BB N N1) (h : ((q = 0 ∧ i ≠ 12) ∨ 1 ≤ q) ∧ q ≤ 7) : BB N (mset N1 q i v) := by
  refine ⟨?_, by rw [mset_ne (by omega)]; exact a.2.1, by rw [mset_ne (by omega)]; exact a.2.2.1, by rw [mset_ne (by omega)]; exact a.2.2.2⟩
  rw [ms_n (by omega)]; exact a.1
/-- the model's row 0 when nobody's hour and room are known yet -/
def ZZ (N : Mem) : Prop := ∀ j, j < 51 → ¬ (9 ≤ j ∧ j < 23) → N 1 j = if j = 1 ∨ (30 ≤ j ∧ j < 37) then -4 else 0
theorem m_begins {post : Mem → Prop} (D : MD2 N t) (o : okT t) (tx : TM N x) (k : ∀ N', RM (mST (ptT t) (htT t) [] [] x []) N' → post N') : P_MD_begins N post := by
  intro R10 R39 R64 k10 k39 k64
  have hn : t.1.length ≤ 7 := o.1
  have fin : ∀ i, i ≤ t.1.length → ∀ N1, BB N N1 → N1 0 3 = nI t.1.length → ZZ N1 → (∀ g, g < i → (N1 2 g = nI (pK (ptT t) g) ∧ N1 3 g = nI (pD (ptT t) g) ∧ N1 4 g = nI (pT (ptT t) g) ∧ N1 5 g = nI (pS (ptT t) g)) ∧ N1 1 (9 + g) = nI (hU (htT t) g) ∧ N1 1 (16 + g) = nI (hR (htT t) g)) → R64 N1 (nI i) := by
    refine up_loop (fun i hi ih N1 b e z q => ?_) (fun N1 b e z q => ?_)
    · apply k64
      unfold B_MD_begins_64
      rw [e]
      refine br_f (nI_ge hi (by omega)) ?_
      simp (disch := omega) only [l9, l16, show (5 : Int32) = nI 5 from rfl, l3, show (4 : Int32) = nI 4 from rfl, l2, pk_mul, nI_add, nI_1, cl, forall_eq]
      have v := fun d (hd : d < 5) => D.2.2.1 i hi d hd
      have v0 := v 0 (by decide)
      have v1 := v 1 (by decide)
      have v2 := v 2 (by decide)
      have v3 := v 3 (by decide)
      have v4 := v 4 (by decide)
      have w := D.2.2.2 i (by omega)
      rw [← b.2.2.1] at v0 v1 v2 v3 v4
      rw [← b.2.2.2] at w
      refine ⟨vin (by omega) (by decide), vin (by omega) (by decide), vin (by omega) (by decide), vin (by omega) (by decide), vin (by omega) (by decide), vin (by omega) (by decide), vin (by omega) (by decide), vin (by omega) (by decide), vin (by omega) (by decide), vin (by omega) (by decide), vin (by omega) (by decide), vin (by omega) (by decide), ?_⟩
      simp (disch := decide) only [ms_k]
      refine ih _ ((((((b.set (by omega)).set (by omega)).set (by omega)).set (by omega)).set (by omega)).set (by omega)) ?_ (fun j h1 h2 => ?_) (fun g hg => ?_)
      · simp (disch := decide) only [ms_k]; exact e
      · simp (disch := omega) only [ms_k, ms_j]; exact z j h1 h2
      · by_cases c : g = i
        · subst c
          simp (disch := omega) only [ms_k, ms_j, ms_s]
          exact ⟨⟨v0, v2, v3, v4⟩, v1, w⟩
        · simp (disch := omega) only [ms_k, ms_j]
          exact q g (by omega)
    · apply k64
      unfold B_MD_begins_64
      rw [e]
      refine br_t (nI_le (Nat.le_refl _) (by omega)) ?_
      simp only [forall_eq]
      have b' := ((b.set (q := 0) (i := 1) (v := 0) (by omega)).set (q := 0) (i := 2) (v := 0) (by omega)).set (q := 0) (i := 8) (v := 0) (by omega)
      refine k _ ⟨⟨?_, fun g hg => ?_⟩, ⟨?_, ?_, fun g hg => ?_⟩, ⟨?_, fun i h hh => ?_⟩, ⟨?_, fun i h hh => ?_⟩, ?_, ⟨?_, fun i h hh => ?_⟩⟩
      · simp (disch := decide) only [ms_j]; exact e
      · simp (disch := decide) only [ms_k]; exact (q g hg).1
      · simp (disch := decide) only [ms_k]; exact (z 0 (by decide) (by decide)).trans rfl
      · simp (disch := decide) only [ms_k]; exact (z 1 (by decide) (by decide)).trans rfl
      · have hg : g < t.1.length := hg
        simp (disch := decide) only [ms_k, Nat.zero_add]
        refine ⟨?_, (q g hg).2.1, (q g hg).2.2, ?_, ?_, ?_, ?_⟩
        · rw [z _ (by omega) (by omega), if_neg (by omega)]; rfl
        · rw [z _ (by omega) (by omega), if_neg (by omega)]; rfl
        · rw [z _ (by omega) (by omega), if_pos (by omega)]; rfl
        · rw [z _ (by omega) (by omega), if_neg (by omega)]; rfl
        · rw [z _ (by omega) (by omega), if_neg (by omega)]; rfl
      · simp (disch := decide) only [ms_j, ms_s]; rfl
      · cases hh
      · simp (disch := decide) only [ms_j, ms_s]; rfl
      · cases hh
      · unfold TM
        rw [b'.1, b'.2.1]; exact tx
      · exact ms_s _ _ _ _
      · cases hh
  have L2 : ∀ i, i ≤ 7 → ∀ N1, BB N N1 → N1 0 3 = nI t.1.length → (∀ j, j < 51 → N1 1 j = if j = 1 ∨ (30 ≤ j ∧ j < 30 + i) then -4 else 0) → R39 N1 (nI i) := by
    refine up_loop (fun i hi ih N1 b e z => ?_) (fun N1 b e z => ?_)
    · apply k39
      unfold B_MD_begins_39
      refine br_f (nI_ge (b := 7) hi (by decide)) ?_
      simp (disch := omega) only [l30, nI_add, nI_1, cl, forall_eq]
      refine ⟨vin (by omega) (by decide), ih _ (b.set (by omega)) ?_ (fun j hj => ?_)⟩
      · rw [ms_k (by decide)]; exact e
      · by_cases c : j = 30 + i
        · subst c; rw [ms_s, if_pos (by omega)]
        · rw [ms_j c, z j hj]
          by_cases c2 : j = 1 ∨ (30 ≤ j ∧ j < 30 + i)
          · rw [if_pos c2, if_pos (by omega)]
          · rw [if_neg c2, if_neg (by omega)]
    · apply k39
      unfold B_MD_begins_39
      refine br_t (nI_le (Nat.le_refl 7) (by decide)) ?_
      simp only [forall_eq]
      exact fin 0 (Nat.zero_le _) N1 b e (fun j h1 h2 => z j h1) (fun g hg => absurd hg (Nat.not_lt_zero _))
  have L1 : ∀ i, i ≤ 51 → ∀ N1, BB N N1 → N1 0 3 = nI t.1.length → (∀ j, j < i → N1 1 j = 0) → R10 N1 (nI i) := by
    refine up_loop (fun i hi ih N1 b e z => ?_) (fun N1 b e z => ?_)
    · apply k10
      unfold B_MD_begins_10
      refine br_f (nI_ge (b := 51) hi (by decide)) ?_
      simp (disch := omega) only [nI_1, cl, forall_eq]
      refine ⟨vin (by omega) (by decide), ih _ (b.set (by omega)) ?_ (fun j hj => ?_)⟩
      · rw [ms_k (by decide)]; exact e
      · by_cases c : j = i
        · subst c; rw [ms_s]
        · rw [ms_j c]; exact z j (by omega)
    · apply k10
      unfold B_MD_begins_10
      refine br_t (nI_le (Nat.le_refl 51) (by decide)) ⟨vin (n := 1) (by decide) (by decide), ?_⟩
      simp only [forall_eq]
      refine L2 0 (Nat.zero_le _) _ (b.set (by omega)) ?_ (fun j hj => ?_)
      · rw [ms_k (by decide)]; exact e
      · by_cases c : j = 1
        · subst c; rw [if_pos (Or.inl rfl)]; exact ms_s _ _ _ _
        · rw [if_neg (by omega), ms_j (by rw [show ((1 : Int32)).toNatClampNeg = 1 from rfl]; exact c)]; exact z j hj
  unfold B_MD_begins_i
  simp only [forall_eq]
  exact L1 0 (Nat.zero_le _) _ (BB.set ⟨rfl, rfl, rfl, rfl⟩ (by omega)) (by rw [ms_s]; exact D.1) (fun j hj => absurd hj (Nat.not_lt_zero _))
theorem y_fault {post : Int32 → Mem → Prop} (I : IX T s) (R : RM s N) (k : ∀ N', RM (fFault s).2 N' → post (fFault s).1 N') : P_MD_fault N post := by
  unfold P_MD_fault B_MD_fault_i
  unfold fFault at k
  have RF : ∀ N1, GF N N1 → RM s N1 := fun N1 f => rm_km R I.1.1 f.km I.2.2.2.2.2.1 I.2.2.2.2.2.2.1
  refine m_faultOf R.2.2.2.2.1 I.2.2.2.2.2.2.2.1 I.2.2.2.2.2.2.2.2.1 (fun i e hi N1 f => ?_) (fun t e o N1 D f => ?_)
  · rw [e] at k; exact k N1 (RF N1 f)
  · rw [e] at k; exact k N1 (RF N1 f)
theorem y_lay {post : Int32 → Mem → Prop} (I : IX T s) (R : RM s N) (k : ∀ N', RM (fLay s).2 N' → post (fLay s).1 N') : P_MD_lay N post := by
  unfold P_MD_lay B_MD_lay_i
  unfold fLay at k
  have RF : ∀ N1, GF N N1 → RM s N1 := fun N1 f => rm_km R I.1.1 f.km I.2.2.2.2.2.1 I.2.2.2.2.2.2.1
  refine m_faultOf R.2.2.2.2.1 I.2.2.2.2.2.2.2.1 I.2.2.2.2.2.2.2.2.1 (fun i e hi N1 f => ?_) (fun t e o N1 D f => ?_)
  · rw [e] at k; exact brn_f (nI_ne4 hi) (k N1 (RF N1 f))
  · rw [e] at k
    refine brn_t rfl ?_
    rw [D.1]
    by_cases c : t.1.length = 0
    · simp only [if_pos c] at k
      exact brn_t (by rw [c]; rfl) (k N1 (RF N1 f))
    · simp only [if_neg c] at k
      refine brn_f (fun z => c (nI_inj (b := 0) (by have := o.1; omega) (by decide) z)) (m_begins D o (R.2.2.2.2.1.gf f) (fun N2 R2 => ?_))
      have e3 : N2 0 3 = nI t.1.length := R2.1.1
      rw [e3]
      exact k N2 R2
end
