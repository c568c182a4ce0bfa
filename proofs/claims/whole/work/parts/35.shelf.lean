/-- outside a stretch of cells nothing changes -/
def Fx (lo hi : Nat) (M M' : Mem) : Prop := ∀ q, (q < lo ∨ hi ≤ q) → M' q = M q
theorem Fx.rf {lo hi : Nat} {M : Mem} : Fx lo hi M M := fun _ _ => rfl
theorem Fx.set {lo hi k i : Nat} {v : Int32} {M M' : Mem} (h : Fx lo hi M M') (h1 : lo ≤ k) (h2 : k < hi) : Fx lo hi M (mset M' k i v) := fun q hq => by
  rw [mset_ne (by omega)]
  exact h q hq
theorem Fx.tr {lo hi : Nat} {M M1 M2 : Mem} (h : Fx lo hi M M1) (h2 : Fx lo hi M1 M2) : Fx lo hi M M2 := fun q hq => (h2 q hq).trans (h q hq)
theorem Fx.up {lo hi lo' hi' : Nat} {M M' : Mem} (h : Fx lo hi M M') (h1 : lo' ≤ lo) (h2 : hi ≤ hi') : Fx lo' hi' M M' := fun q hq => h q (by omega)
theorem HR.of {a n : Nat} {h : HT} {M M' : Mem} (k : HR M a n h) (e : ∀ q, a ≤ q → q < a + 8 → M' q = M q) : HR M' a n h := by
  refine ⟨by rw [e a (by omega) (by omega)]; exact k.1, by rw [e a (by omega) (by omega)]; exact k.2.1, fun j hj => ?_⟩
  obtain ⟨y1, y2, y3, y4, y5, y6, y7⟩ := k.2.2 j hj
  exact ⟨by rw [e _ (by omega) (by omega)]; exact y1, by rw [e _ (by omega) (by omega)]; exact y2, by rw [e _ (by omega) (by omega)]; exact y3, by rw [e _ (by omega) (by omega)]; exact y4, by rw [e _ (by omega) (by omega)]; exact y5, by rw [e _ (by omega) (by omega)]; exact y6, by rw [e _ (by omega) (by omega)]; exact y7⟩
theorem HR.fx {a n lo hi : Nat} {h : HT} {M M' : Mem} (k : HR M a n h) (f : Fx lo hi M M') (e : a + 8 ≤ lo ∨ hi ≤ a) : HR M' a n h := k.of (fun q h1 h2 => f q (by omega))
theorem HR.fr {a n b : Nat} {h : HT} {M M' : Mem} (k : HR M a n h) (f : Fr b M M') (e : a + 8 ≤ b ∨ b + 8 ≤ a) : HR M' a n h := k.of (fun q h1 h2 => f q (by omega))
theorem PR.fx {p lo hi : Nat} {M M' : Mem} {P : PT} (h : PR M p P) (f : Fx lo hi M M') (h1 : p + 6 < lo ∨ hi ≤ p) : PR M' p P := by
  refine ⟨by rw [f p (by omega)]; exact h.1, fun g hg => ?_⟩
  obtain ⟨a1, a2, a3, a4⟩ := h.2 g hg
  exact ⟨by rw [f _ (by omega)]; exact a1, by rw [f _ (by omega)]; exact a2, by rw [f _ (by omega)]; exact a3, by rw [f _ (by omega)]; exact a4⟩
/-- a shelf of ln houses at a: those in l, the oldest first -/
def SF (M : Mem) (a ln n : Nat) (l : List HT) : Prop :=
  l.length ≤ ln ∧ M a 1 = nI l.length ∧ ∃ ad : Nat → Nat, (∀ i, i < ln → M (a + 1) i = nI (a + 2 + 8 * ad i)) ∧ (∀ i, i < ln → ad i < ln) ∧ (∀ i j, i < ln → j < ln → ad i = ad j → i = j) ∧ ∀ i h, l[i]? = some h → HR M (a + 2 + 8 * ad i) n h
theorem SF.fx {a ln n lo hi : Nat} {l : List HT} {M M' : Mem} (k : SF M a ln n l) (f : Fx lo hi M M') (e : a + 2 + 8 * ln ≤ lo ∨ hi ≤ a) : SF M' a ln n l := by
  obtain ⟨k1, k2, ad, k3, k4, k5, k6⟩ := k
  refine ⟨k1, by rw [f a (by omega)]; exact k2, ad, fun i hi => by rw [f (a + 1) (by omega)]; exact k3 i hi, k4, k5, fun i h hh => ?_⟩
  have hi : i < l.length := (List.getElem?_eq_some_iff.mp hh).1
  have := k4 i (by omega)
  exact (k6 i h hh).fx f (by omega)
section
variable {M : Mem} {a ln n p : Nat} {l : List HT} {h : HT}
theorem s_full {post : Int32 → Mem → Prop} (k : SF M a ln n l) (h8 : ln ≤ 8) (k1 : l.length = ln → post 1 M) (k0 : l.length < ln → post 0 M) : P_Shelf_isFull M a ln post := by
  obtain ⟨h1, h2, -⟩ := k
  unfold P_Shelf_isFull B_Shelf_isFull_i
  rw [h2, show Int32.ofNat ln = nI ln from rfl]
  refine br_c (fun c => k0 ((nI_ltI (by omega) (by omega)).mp c)) (fun c => k1 ?_)
  have := fun q => c ((nI_ltI (a := l.length) (b := ln) (by omega) (by omega)).mpr q)
  rcases Nat.lt_or_ge l.length ln with q | q
  · exact absurd q this
  · omega
theorem s_drop {post : Mem → Prop} (k : SF M a ln n l) (hl : l.length = ln) (h0 : 0 < ln) (h8 : ln ≤ 8) (hH : ∀ j, j < ln → Hh (a + 2 + 8 * j)) (kk : ∀ M', SF M' a ln n (l.drop 1) → Fx a (a + 2 + 8 * ln) M M' → post M') : P_Shelf_dropOldest M a ln post := by
  obtain ⟨h1, h2, ad, h3, h4, h5, h6⟩ := k
  have ha : a < 164 := by have := (hH 0 h0).2.1; omega
  have had : ∀ i, i < ln → a + 2 + 8 * ad i < 2 ^ 31 := fun i hi => by have := h4 i hi; omega
  have e2 : nI ln - 1 = nI (ln - 1) := pk_sub (b := 1) h0
  intro R22 k22
  have L : ∀ i, i ≤ ln - 1 → ∀ M1, ((∀ j, j < i → M1 (a + 1) j = M (a + 1) (j + 1)) ∧ (∀ j, i ≤ j → M1 (a + 1) j = M (a + 1) j) ∧ ∀ q, q ≠ a + 1 → M1 q = M q) → R22 M1 (nI (ln - 1)) (a + 2 + 8 * ad 0) (nI i) := by
    refine up_loop (fun i hi ih M1 q => ?_) (fun M1 q => ?_)
    · apply k22
      unfold B_Shelf_dropOldest_22
      have e1 : M1 (a + 1) (i + 1) = nI (a + 2 + 8 * ad (i + 1)) := by rw [q.2.1 (i + 1) (by omega)]; exact h3 (i + 1) (by omega)
      simp (disch := omega) only [cl, nI_1, forall_eq]
      rw [e1, cl (had (i + 1) (by omega))]
      refine br_f (nI_ge hi (by omega)) ⟨vin (by omega) (by omega), vin (by omega) (by omega), hH _ (h4 (i + 1) (by omega)), ?_⟩
      refine ih _ ⟨fun j hj => ?_, fun j hj => ?_, fun j hj => ?_⟩
      · by_cases e : j = i
        · subst e; rw [ms_s, h3 (j + 1) (by omega)]
        · rw [ms_j e]; exact q.1 j (by omega)
      · rw [ms_j (by omega)]; exact q.2.1 j (by omega)
      · rw [mset_ne hj]; exact q.2.2 j hj
    · apply k22
      unfold B_Shelf_dropOldest_22
      simp (disch := omega) only [cl, forall_eq]
      refine br_t (nI_le (Nat.le_refl _) (by omega)) ⟨vin (by omega) (by omega), hH _ (h4 0 h0), kk _ ?_ ?_⟩
      · refine ⟨by rw [List.length_drop]; omega, by rw [ms_s, List.length_drop, hl], fun i => ad (if i + 1 < ln then i + 1 else 0), fun i hi => ?_, fun i hi => ?_, fun i j hi hj e => ?_, fun i h hh => ?_⟩
        · dsimp only
          rw [ms_k (by omega)]
          by_cases c : i + 1 < ln
          · rw [ms_j (by omega), if_pos c, q.1 i (by omega)]; exact h3 _ c
          · rw [if_neg c, show i = ln - 1 by omega, ms_s]
        · dsimp only
          split
          · exact h4 _ (by assumption)
          · exact h4 0 h0
        · have := h5 _ _ (by split <;> omega) (by split <;> omega) e
          split at this <;> split at this <;> omega
        · rw [List.getElem?_drop] at hh
          have hi : 1 + i < l.length := (List.getElem?_eq_some_iff.mp hh).1
          dsimp only
          rw [if_pos (by omega)]
          rw [show i + 1 = 1 + i by omega]
          have h41 := h4 (1 + i) (by omega)
          refine (h6 _ h hh).of (fun q2 g1 g2 => ?_)
          rw [mset_ne (by omega), mset_ne (by omega)]
          exact q.2.2 q2 (by omega)
      · intro q2 hq2
        rw [mset_ne (by omega), mset_ne (by omega)]
        exact q.2.2 q2 (by omega)
  unfold B_Shelf_dropOldest_i
  rw [show Int32.ofNat ln = nI ln from rfl, e2]
  simp only [forall_eq]
  rw [show (0 : Int32).toNatClampNeg = 0 from rfl, h3 0 h0, cl (had 0 h0)]
  exact br_t (nI_pos' (by omega)) ⟨vin (n := 0) h0 (by omega), L 0 (by omega) M ⟨fun j hj => by omega, fun j hj => rfl, fun q hq => rfl⟩⟩
/-- a house is put on a shelf -/
def put (ln : Nat) (l : List HT) (h : HT) : List HT := (if l.length = ln then l.drop 1 else l) ++ [h]
theorem s_put {post : Mem → Prop} (k : SF M a ln n l) (h0 : 0 < ln) (h8 : ln ≤ 8) (h7 : n ≤ 7) (hH : ∀ j, j < ln → Hh (a + 2 + 8 * j)) (hh : HR M p n h) (hp : p + 8 ≤ a ∨ a + 2 + 8 * ln ≤ p) (kk : ∀ M', SF M' a ln n (put ln l h) → Fx a (a + 2 + 8 * ln) M M' → post M') : P_Shelf_put M a ln p post := by
  intro R11 k11
  have key : ∀ M1 l1, l1.length < ln → SF M1 a ln n l1 → Fx a (a + 2 + 8 * ln) M M1 → put ln l h = l1 ++ [h] → R11 M1 := by
    intro M1 l1 hl q f e
    apply k11
    unfold B_Shelf_put_11
    obtain ⟨h1, h2, ad, h3, h4, h5, h6⟩ := q
    have ha : a < 164 := by have := (hH 0 h0).2.1; omega
    have had := h4 l1.length hl
    rw [h2, show Int32.ofNat ln = nI ln from rfl]
    simp (disch := omega) only [cl, forall_eq]
    rw [h3 _ hl, cl (by omega)]
    refine br_f (nI_pos (by omega)) (br_t (nI_lt hl (by omega)) ⟨vin hl (by omega), hH _ had, ?_⟩)
    refine s_copy h7 (by omega) (hh.fx f hp) (fun M2 q2 f2 => kk _ ?_ ?_)
    · rw [e]
      have e1 : M2 a 1 = nI l1.length := by rw [f2 a (by omega)]; exact h2
      rw [e1, nI_1]
      refine ⟨by rw [List.length_append]; exact hl, by rw [ms_s, List.length_append]; rfl, ad, fun i hi => ?_, h4, h5, fun i x hx => ?_⟩
      · rw [ms_k (by omega), f2 (a + 1) (by omega)]; exact h3 i hi
      · have hi2 : i < (l1 ++ [h]).length := (List.getElem?_eq_some_iff.mp hx).1
        rw [List.length_append] at hi2
        have hi2 : i < l1.length + 1 := hi2
        have h4i := h4 i (by omega)
        by_cases c : i = l1.length
        · subst c
          rw [List.getElem?_append_right (Nat.le_refl _), Nat.sub_self] at hx
          cases hx
          exact q2.of (fun q g1 g2 => mset_ne (by omega))
        · rw [List.getElem?_append_left (by omega)] at hx
          have hne : ad i ≠ ad l1.length := fun z => c (h5 _ _ (by omega) hl z)
          refine (h6 i x hx).of (fun q g1 g2 => ?_)
          rw [mset_ne (by omega)]
          exact f2 q (by omega)
    · refine (f.tr (M2 := M2) ?_).set (by omega) (by omega)
      exact fun q hq => f2 q (by omega)
  unfold B_Shelf_put_i
  refine s_full k h8 (fun c => br_f (by decide) ?_) (fun c => br_t rfl (key M l c k Fx.rf (by unfold put; rw [if_neg (by omega)])))
  exact s_drop k c h0 h8 hH (fun M2 q2 f2 => key M2 _ (by rw [List.length_drop]; omega) q2 f2 (by unfold put; rw [if_pos c]))
theorem s_take {post : Int32 → Mem → Prop} (k : SF M a ln n l) (h0 : 0 < ln) (h8 : ln ≤ 8) (h7 : n ≤ 7) (hH : ∀ j, j < ln → Hh (a + 2 + 8 * j)) (hp : p + 8 ≤ a ∨ a + 2 + 8 * ln ≤ p) (k0 : l = [] → post 0 M) (k1 : ∀ l0 h, l = l0 ++ [h] → ∀ M', SF M' a ln n l0 → HR M' p n h → (∀ q, q ≠ a → (q < p ∨ p + 8 ≤ q) → M' q = M q) → (∀ i, i ≠ 1 → M' a i = M a i) → post 1 M') : P_Shelf_takeInto M a ln p post := by
  obtain ⟨h1, h2, ad, h3, h4, h5, h6⟩ := k
  have ha : a < 164 := by have := (hH 0 h0).2.1; omega
  unfold P_Shelf_takeInto B_Shelf_takeInto_i
  rw [h2, show Int32.ofNat ln = nI ln from rfl]
  rcases List.eq_nil_or_concat l with e | ⟨l0, x, e⟩
  · refine br_t ?_ (k0 e)
    rw [e]; decide
  · have e : l = l0 ++ [x] := by rw [e, List.concat_eq_append]
    have hl : l.length = l0.length + 1 := by rw [e, List.length_append]; rfl
    have e2 : nI l.length - 1 = nI l0.length := by rw [hl]; exact nI_pred _
    have had := h4 l0.length (by omega)
    rw [e2]
    simp (disch := omega) only [cl, forall_eq]
    rw [h3 _ (by omega), cl (by omega)]
    have hx : l[l0.length]? = some x := by rw [e, List.getElem?_append_right (Nat.le_refl _), Nat.sub_self]; rfl
    refine br_f (fun z => ?_) (br_t (nI_le h1 (by omega)) ⟨vin (by omega) (by omega), hH _ had, ?_⟩)
    · have := (nI_ltI (a := l.length) (b := 1) (by omega) (by decide)).mp z
      omega
    · refine s_copy h7 (by omega) (h6 _ _ hx) (fun M2 q2 f2 => k1 l0 x e _ ?_ ?_ ?_ ?_)
      · have e1 : M2 a 1 = nI l.length := by rw [f2 a (by omega)]; exact h2
        rw [e1, e2]
        refine ⟨by omega, ms_s _ _ _ _, ad, fun i hi => ?_, h4, h5, fun i y hy => ?_⟩
        · rw [ms_k (by omega), f2 (a + 1) (by omega)]; exact h3 i hi
        · have hi2 : i < l0.length := (List.getElem?_eq_some_iff.mp hy).1
          have h4i := h4 i (by omega)
          have hy2 : l[i]? = some y := by rw [e, List.getElem?_append_left hi2]; exact hy
          refine (h6 i y hy2).of (fun q g1 g2 => ?_)
          rw [mset_ne (by omega)]
          exact f2 q (by omega)
      · exact q2.of (fun q g1 g2 => mset_ne (by omega))
      · intro q g1 g2
        rw [mset_ne g1]
        exact f2 q g2
      · intro i hi
        rw [ms_j hi, f2 a (by omega)]
end
