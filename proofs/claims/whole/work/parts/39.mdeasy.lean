theorem MR.of {r n : Nat} {h : HT} {N N' : Mem} (k : MR N r n h) (h7 : n ≤ 7) (e : ∀ i, r ≤ i → i < r + 51 → N' 1 i = N 1 i) : MR N' r n h := by
  refine ⟨by rw [e r (by omega) (by omega)]; exact k.1, by rw [e _ (by omega) (by omega)]; exact k.2.1, fun j hj => ?_⟩
  obtain ⟨y1, y2, y3, y4, y5, y6, y7⟩ := k.2.2 j hj
  exact ⟨by rw [e _ (by omega) (by omega)]; exact y1, by rw [e _ (by omega) (by omega)]; exact y2, by rw [e _ (by omega) (by omega)]; exact y3, by rw [e _ (by omega) (by omega)]; exact y4, by rw [e _ (by omega) (by omega)]; exact y5, by rw [e _ (by omega) (by omega)]; exact y6, by rw [e _ (by omega) (by omega)]; exact y7⟩
theorem MR.mv {r q n : Nat} {h : HT} {N N' : Mem} (k : MR N r n h) (h7 : n ≤ 7) (e : ∀ j, j < 51 → N' 1 (q + j) = N 1 (r + j)) : MR N' q n h := by
  refine ⟨(e 0 (by decide)).trans k.1, (e 1 (by decide)).trans k.2.1, fun j hj => ?_⟩
  obtain ⟨y1, y2, y3, y4, y5, y6, y7⟩ := k.2.2 j hj
  refine ⟨?_, ?_, ?_, ?_, ?_, ?_, ?_⟩
  · rw [Nat.add_assoc] at y1 ⊢; exact (e _ (by omega)).trans y1
  · rw [Nat.add_assoc] at y2 ⊢; exact (e _ (by omega)).trans y2
  · rw [Nat.add_assoc] at y3 ⊢; exact (e _ (by omega)).trans y3
  · rw [Nat.add_assoc] at y4 ⊢; exact (e _ (by omega)).trans y4
  · rw [Nat.add_assoc] at y5 ⊢; exact (e _ (by omega)).trans y5
  · rw [Nat.add_assoc] at y6 ⊢; exact (e _ (by omega)).trans y6
  · rw [Nat.add_assoc] at y7 ⊢; exact (e _ (by omega)).trans y7
theorem PM.of {P : PT} {N N' : Mem} (h : PM N P) (e0 : N' 0 3 = N 0 3) (e : ∀ q, 2 ≤ q → q ≤ 5 → N' q = N q) : PM N' P := by
  refine ⟨by rw [e0]; exact h.1, fun g hg => ?_⟩
  rw [e 2 (by decide) (by decide), e 3 (by decide) (by decide), e 4 (by decide) (by decide), e 5 (by decide) (by decide)]
  exact h.2 g hg
/-- cells of the model that hold what lasts -/
def KM (N N' : Mem) : Prop := (∀ i, i = 1 ∨ i = 2 ∨ i = 3 ∨ i = 8 ∨ i = 12 → N' 0 i = N 0 i) ∧ (∀ i, (i < 51 ∨ 102 ≤ i) → N' 1 i = N 1 i) ∧ ∀ q, 2 ≤ q → q ≤ 8 → N' q = N q
theorem KM.rf {N : Mem} : KM N N := ⟨fun _ _ => rfl, fun _ _ => rfl, fun _ _ _ => rfl⟩
theorem KM.tr {N N1 N2 : Mem} (a : KM N N1) (b : KM N1 N2) : KM N N2 := ⟨fun i hi => (b.1 i hi).trans (a.1 i hi), fun i hi => (b.2.1 i hi).trans (a.2.1 i hi), fun q h1 h2 => (b.2.2 q h1 h2).trans (a.2.2 q h1 h2)⟩
theorem FM.km {N N' : Mem} (f : FM 51 N N') : KM N N' := ⟨fun i _ => by rw [f.1 0 (by decide)], fun i hi => f.2 i (by omega), fun q h1 _ => f.1 q (by omega)⟩
theorem rm_km {s : ST} {N N' : Mem} (R : RM s N) (h7 : pN (xP s) ≤ 7) (f : KM N N') (hu : (xU s).length ≤ 8) (hk : (xK s).length ≤ 2) : RM s N' := by
  obtain ⟨R1, R2, ⟨R3, R4⟩, ⟨R5, R6⟩, R7, R8⟩ := R
  refine ⟨R1.of (f.1 3 (by decide)) (fun q h1 h2 => f.2.2 q h1 (by omega)), R2.of h7 (fun i _ hi => f.2.1 i (by omega)), ⟨by rw [f.1 1 (by decide)]; exact R3, fun i h hh => (R4 i h hh).of h7 (fun j g1 g2 => f.2.1 j (by omega))⟩, ⟨by rw [f.1 2 (by decide)]; exact R5, fun i h hh => (R6 i h hh).of h7 (fun j g1 g2 => f.2.1 j (by omega))⟩, ?_, ?_⟩
  · unfold TM; rw [f.1 12 (by decide), f.2.2 8 (by decide) (by decide)]; exact R7
  · unfold NM; rw [f.1 8 (by decide), f.2.2 6 (by decide) (by decide), f.2.2 7 (by decide) (by decide)]; exact R8
theorem m_copy0 {N : Mem} {p q : Nat} {post : Mem → Prop} (hp : p + 51 ≤ 612) (hq : q + 51 ≤ 612) (hd : p + 51 ≤ q ∨ q + 51 ≤ p) (k : ∀ N', (∀ j, j < 51 → N' 1 (q + j) = N 1 (p + j)) → FM q N N' → post N') : P_MD_copy N (nI p) (nI q) post := by
  intro R2 k2
  have L : ∀ i, i ≤ 51 → ∀ N1, (∀ j, j < i → N1 1 (q + j) = N 1 (p + j)) → FM q N N1 → R2 N1 (nI i) := by
    refine up_loop (fun i hi ih N1 e f => ?_) (fun N1 e f => ?_)
    · apply k2
      unfold B_MD_copy_2
      simp (disch := omega) only [nI_add, nI_1, cl, forall_eq]
      refine br_f (nI_ge (b := 51) hi (by decide)) ⟨vin (by omega) (by decide), vin (by omega) (by decide), ih _ (fun j hj => ?_) (f.set (by omega) (by omega))⟩
      by_cases c : j = i
      · subst c; rw [ms_s]; exact f.2 _ (by omega)
      · rw [ms_j (by omega)]; exact e j (by omega)
    · apply k2
      unfold B_MD_copy_2
      exact br_t (nI_le (Nat.le_refl 51) (by decide)) (k N1 e f)
  unfold B_MD_copy_i
  simp only [forall_eq]
  exact L 0 (by decide) N (fun j hj => absurd hj (Nat.not_lt_zero _)) FM.rf
theorem a51 (c u : Nat) : nI c + 51 * nI u = nI (c + 51 * u) := by
  rw [show (51 : Int32) = nI 51 from rfl, pk_mul, nI_add]
section
variable {T : Nat} {s : ST} {N : Mem}
theorem m_tries {post : Mem → Prop} (I : IX T s) (R : RM s N) (k : ∀ N', RM s N' → MR N' 51 (pN (xP s)) (xH s) → KM N N' → (∀ q, q ≠ 1 → N' q = N q) → post N') : P_MD_tries N post := by
  unfold P_MD_tries B_MD_tries_i
  refine m_copy0 (p := 0) (q := 51) (by decide) (by decide) (Or.inl (by decide)) (fun N' e f => k N' (rm_km R I.1.1 f.km I.2.2.2.2.2.1 I.2.2.2.2.2.2.1) ?_ f.km f.1)
  exact R.2.1.mv I.1.1 e
theorem m_minds {post : Mem → Prop} (I : IX T s) (R : RM s N) (k : ∀ N', RM (act s (xH s)) N' → post N') : P_MD_minds N post := by
  have h7 := I.1.1
  have hu := I.2.2.2.2.2.1
  have hk := I.2.2.2.2.2.2.1
  obtain ⟨R1, R2, ⟨R3, R4⟩, ⟨R5, R6⟩, R7, R8⟩ := id R
  intro R57 R11 k57 k11
  -- from a memory with room for one more
  have key : ∀ N1 (u : List HT), u.length < 8 → put 8 (xU s) (xH s) = u ++ [xH s] → N1 0 1 = nI u.length → (∀ i h, u[i]? = some h → MR N1 (204 + 51 * i) (pN (xP s)) h) → (∀ i, i ≠ 1 → N1 0 i = N 0 i) → (∀ i, i < 204 → N1 1 i = N 1 i) → (∀ q, 2 ≤ q → N1 q = N q) → R57 N1 := by
    intro N1 u hl e e1 e2 f0 f1 f2
    apply k57
    unfold B_MD_minds_57
    rw [e1, show (204 : Int32) = nI 204 from rfl, a51]
    refine m_copy0 (p := 0) (q := 204 + 51 * u.length) (by decide) (by omega) (Or.inl (by omega)) (fun N2 q2 f => ?_)
    simp only [forall_eq]
    rw [f.1 0 (by decide), e1, nI_1]
    have g1 : ∀ i, (i < 204 + 51 * u.length ∨ 204 + 51 * u.length + 51 ≤ i) → mset N2 0 1 (nI (u.length + 1)) 1 i = N1 1 i := fun i hi => by rw [ms_k (by decide)]; exact f.2 i hi
    have g2 : ∀ q, 2 ≤ q → mset N2 0 1 (nI (u.length + 1)) q = N q := fun q hq => by rw [mset_ne (by omega), f.1 q (by omega)]; exact f2 q hq
    have g0 : ∀ i, i ≠ 1 → mset N2 0 1 (nI (u.length + 1)) 0 i = N 0 i := fun i hi => by rw [ms_j hi, f.1 0 (by decide)]; exact f0 i hi
    refine k _ ⟨R1.of (g0 3 (by decide)) (fun q h1 _ => g2 q h1), R2.of h7 (fun i _ hi => by rw [g1 i (by omega)]; exact f1 i (by omega)), ⟨?_, fun i h hh => ?_⟩, ⟨by rw [g0 2 (by decide)]; exact R5, fun i h hh => ?_⟩, ?_, ?_⟩
    · show _ = nI (put 8 (xU s) (xH s)).length
      rw [e, List.length_append, ms_s]; rfl
    · have hh : (put 8 (xU s) (xH s))[i]? = some h := hh
      rw [e] at hh
      have hi : i < (u ++ [xH s]).length := (List.getElem?_eq_some_iff.mp hh).1
      rw [List.length_append] at hi
      have hi : i < u.length + 1 := hi
      by_cases c : i = u.length
      · subst c
        rw [List.getElem?_append_right (Nat.le_refl _), Nat.sub_self] at hh
        cases hh
        refine R2.mv h7 (fun j hj => ?_)
        rw [ms_k (by decide), q2 j hj]
        exact f1 _ (by omega)
      · rw [List.getElem?_append_left (by omega)] at hh
        exact (e2 i h hh).of h7 (fun j z1 z2 => g1 j (by omega))
    · have hi : i < (xK s).length := (List.getElem?_eq_some_iff.mp hh).1
      exact (R6 i h hh).of h7 (fun j z1 z2 => by rw [g1 j (by omega)]; exact f1 j (by omega))
    · show TM _ (xX s)
      unfold TM; rw [g0 12 (by decide), g2 8 (by decide)]; exact R7
    · show NM _ (xE s)
      unfold NM; rw [g0 8 (by decide), g2 6 (by decide), g2 7 (by decide)]; exact R8
  unfold B_MD_minds_i
  rw [R3]
  by_cases c : (xU s).length = 8
  · refine brn_t (by rw [c]; rfl) ?_
    simp only [forall_eq]
    have L : ∀ i, i ≤ 357 → ∀ N1, (∀ j, j < i → N1 1 (204 + j) = N 1 (204 + j + 51)) → (∀ j, (j < 204 ∨ 204 + i ≤ j) → N1 1 j = N 1 j) → (∀ q, q ≠ 1 → N1 q = N q) → R11 N1 (nI i) := by
      refine up_loop (fun i hi ih N1 e f g => ?_) (fun N1 e f g => ?_)
      · apply k11
        unfold B_MD_minds_11
        simp only [show (204 : Int32) = nI 204 from rfl, nI_add, nI_1, forall_eq]
        simp only [show (51 : Int32) = nI 51 from rfl, nI_add]
        simp (disch := omega) only [cl]
        refine br_f (nI_ge (b := 357) hi (by decide)) ⟨vin (by omega) (by decide), vin (by omega) (by decide), ih _ (fun j hj => ?_) (fun j hj => ?_) (fun q hq => ?_)⟩
        · by_cases c : j = i
          · subst c; rw [ms_s]; exact f _ (by omega)
          · rw [ms_j (by omega)]; exact e j (by omega)
        · rw [ms_j (by omega)]; exact f j (by omega)
        · rw [mset_ne hq]; exact g q hq
      · apply k11
        unfold B_MD_minds_11
        simp only [forall_eq]
        refine br_t (nI_le (Nat.le_refl 357) (by decide)) ?_
        have e01 : N1 0 1 = nI 8 := by rw [g 0 (by decide), R3, c]
        rw [e01, show nI 8 - 1 = nI 7 from by decide]
        refine key _ ((xU s).drop 1) (by rw [List.length_drop]; omega) (by unfold put; rw [if_pos c]) (by rw [ms_s, List.length_drop, c]) (fun i h hh => ?_) (fun i hi => by rw [ms_j hi, g 0 (by decide)]) (fun i hi => by rw [ms_k (by decide)]; exact f i (by omega)) (fun q hq => by rw [mset_ne (by omega)]; exact g q (by omega))
        rw [List.getElem?_drop] at hh
        have hi : 1 + i < (xU s).length := (List.getElem?_eq_some_iff.mp hh).1
        refine (R4 (1 + i) h hh).mv h7 (fun j hj => ?_)
        rw [ms_k (by decide), show 204 + 51 * i + j = 204 + (51 * i + j) by omega, e _ (by omega)]
        exact congrArg (N 1) (by omega)
    exact L 0 (by decide) N (fun j hj => absurd hj (Nat.not_lt_zero _)) (fun _ _ => rfl) (fun _ _ => rfl)
  · refine brn_f (fun z => c (nI_inj (b := 8) (by omega) (by decide) z)) ?_
    exact key N (xU s) (by omega) (by unfold put; rw [if_neg c]) R3 R4 (fun _ _ => rfl) (fun _ _ => rfl) (fun _ _ => rfl)
end
