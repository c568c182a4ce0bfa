def OM (M : Mem) (l : List Nat) : Prop := ∀ e x : Nat, l[e]? = some x → M 145 e = nI x
theorem OM.at {M : Mem} {l : List Nat} (o : OM M l) {e : Nat} (h : e < l.length) : M 145 e = nI (l.getD e 0) := by
  refine o e _ ?_
  rw [List.getD_eq_getElem?_getD, List.getElem?_eq_getElem h]; rfl
theorem sw2_len (l : List Nat) (i j : Nat) : (sw2 l i j).length = l.length := by unfold sw2; rw [List.length_set, List.length_set]
section
variable {M : Mem} {n : Nat} {l : List Nat}
/-- only the order changes -/
def F145 (M M' : Mem) : Prop := ∀ q, q ≠ 145 → M' q = M q
theorem s_swap2 {i j : Nat} {post : Mem → Prop} (hn : M 4 6 = nI n) (h7 : n ≤ 7) (o : OM M l) (hl : l.length = n) (hi' : i < n) (hj' : j < n) (k : ∀ M', OM M' (sw2 l i j) → F145 M M' → post M') : P_Sightings_swap M (nI i) (nI j) post := by
  have hi : i < l.length := by omega
  have hj : j < l.length := by omega
  unfold P_Sightings_swap B_Sightings_swap_i
  refine s_has_t hn h7 hi' (br_f (by decide) (s_has_t hn h7 hj' (br_f (by decide) ?_)))
  simp (disch := omega) only [cl, forall_eq]
  rw [o.at hi, o.at hj]
  refine ⟨vin (by omega) (by decide), vin (by omega) (by decide), vin (by omega) (by decide), vin (by omega) (by decide), k _ (fun e x hx => ?_) (fun q hq => by rw [mset_ne hq, mset_ne hq])⟩
  unfold sw2 at hx
  by_cases c : e = j
  · subst c
    rw [ms_s]
    rw [List.getElem?_set_self (by rw [List.length_set]; exact hj)] at hx
    exact congrArg nI (Option.some.inj hx)
  · rw [ms_j c]
    rw [List.getElem?_set_ne (fun z => c z.symm)] at hx
    by_cases d : e = i
    · subst d
      rw [ms_s]
      rw [List.getElem?_set_self hi] at hx
      exact congrArg nI (Option.some.inj hx)
    · rw [ms_j d]
      rw [List.getElem?_set_ne (fun z => d z.symm)] at hx
      exact o e x hx
theorem np1_lt (l : List Nat) : ∀ i t, np1 l i = some t → t < i
  | 0, _, h => by cases h
  | i + 1, t, h => by
    unfold np1 at h
    split at h
    · have := np1_lt l i t h; omega
    · cases h; omega
theorem s_next {post : Int32 → Mem → Prop} (hn : M 4 6 = nI n) (h7 : n ≤ 7) (h1 : 1 ≤ n) (hl : l.length = n) (hx : ∀ x, x ∈ l → x < n) (o : OM M l) (k0 : npx n l = none → post 0 M) (k1 : ∀ l', npx n l = some l' → ∀ M', OM M' l' → F145 M M' → post 1 M') : P_Sightings_nextOrder M post := by
  intro R19 R54 R94 k19 k54 k94
  have gl : ∀ e, l.getD e 0 < 7 := fun e => by
    by_cases c : e < l.length
    · have := hx _ (mem_getD (d := 0) c); omega
    · rw [List.getD_eq_getElem?_getD, List.getElem?_eq_none (by omega)]; decide
  have m1 : ∀ i, nI (i + 1) + (-1) = nI i := fun i => (Int32.sub_eq_add_neg _ _).symm.trans (by rw [show (1 : Int32) = nI 1 from rfl, pk_sub (by omega)]; exact congrArg nI (by omega))
  have n1 : nI n - 1 = nI (n - 1) := pk_sub (b := 1) h1
  have L94 : ∀ f a b l2 M2, b ≤ a + f → a + f ≤ 20 → b < n → l2.length = n → OM M2 l2 → F145 M M2 → npx n l = some (np3 f l2 a b) → R94 M2 (nI a) (nI b) := by
    intro f
    induction f with
    | zero =>
      intro a b l2 M2 hf ha hb hl2 o2 F e
      apply k94
      unfold B_Sightings_nextOrder_94
      exact br_t (nI_le (by omega) (by omega)) (k1 _ e M2 o2 F)
    | succ f ih =>
      intro a b l2 M2 hf ha hb hl2 o2 F e
      apply k94
      unfold B_Sightings_nextOrder_94
      unfold np3 at e
      by_cases c : b ≤ a
      · rw [if_pos c] at e
        exact br_t (nI_le c (by omega)) (k1 _ e M2 o2 F)
      · rw [if_neg c] at e
        refine br_f (nI_ge (by omega) (by omega)) (s_swap2 (by rw [F 4 (by decide)]; exact hn) h7 o2 hl2 (by omega) hb (fun M3 o3 F3 => ?_))
        simp only [forall_eq, nI_1]
        obtain ⟨b', rfl⟩ : ∃ b', b = b' + 1 := ⟨b - 1, by omega⟩
        rw [m1]
        exact ih (a + 1) b' _ M3 (by omega) (by omega) (by omega) (by rw [sw2_len]; exact hl2) o3 (fun q hq => (F3 q hq).trans (F q hq)) e
  have L54 : ∀ t, np1 l (n - 1) = some t → ∀ j, j ≤ n - 1 → np2 l t (n - 1) = np2 l t j → R54 M (nI (n - 1)) (nI t) (nI j) := by
    intro t et
    have ht := np1_lt l _ t et
    have fin : ∀ ot, ot ≤ n - 1 → np2 l t (n - 1) = ot → P_Sightings_swap M (nI t) (nI ot) (fun (M6 : Mem) => ∀ z7 : Int32, z7 = (nI t + (1 : Int32)) → ∀ z8 : Int32, z8 = nI (n - 1) → (R94 M6 z7 z8)) := fun ot ho eo => by
      refine s_swap2 hn h7 o hl (by omega) (by omega) (fun M2 o2 F => ?_)
      simp only [forall_eq, nI_1]
      refine L94 n (t + 1) (n - 1) _ M2 (by omega) (by omega) (by omega) (by rw [sw2_len]; exact hl) o2 F ?_
      unfold npx
      rw [et]
      simp only
      rw [eo]
    intro j
    induction j with
    | zero =>
      intro _ e
      apply k54
      unfold B_Sightings_nextOrder_54
      exact br_t (nI_le (a := 0) (by omega) (by omega)) (fin 0 (by omega) e)
    | succ j ih =>
      intro hj e
      apply k54
      unfold B_Sightings_nextOrder_54
      have e2 : np2 l t (j + 1) = if j + 1 ≤ t then j + 1 else if l.getD (j + 1) 0 < l.getD t 0 then np2 l t j else j + 1 := rfl
      rw [e2] at e
      by_cases c : j + 1 ≤ t
      · rw [if_pos c] at e
        exact br_t (nI_le c (by omega)) (fin _ hj e)
      · rw [if_neg c] at e
        refine br_f (nI_ge (by omega) (by omega)) ?_
        simp (disch := omega) only [cl]
        rw [o.at (show t < l.length by omega), o.at (show j + 1 < l.length by omega)]
        have g1 := gl t
        have g2 := gl (j + 1)
        refine ⟨vin (by omega) (by decide), vin (by omega) (by decide), ?_⟩
        by_cases d : l.getD (j + 1) 0 < l.getD t 0
        · rw [if_pos d] at e
          refine br_f (nI_ge d (by omega)) ?_
          simp only [forall_eq]
          rw [m1]
          exact ih (by omega) e
        · rw [if_neg d] at e
          exact br_t (nI_le (by omega) (by omega)) (fin _ hj e)
  have L19 : ∀ i, i ≤ n - 1 → np1 l (n - 1) = np1 l i → R19 M (nI (n - 1)) (nI i - 1) := by
    intro i
    induction i with
    | zero =>
      intro _ e
      apply k19
      unfold B_Sightings_nextOrder_19
      refine br_t (by decide) ⟨fun z => absurd z (by decide), fun _ => k0 ?_⟩
      unfold npx
      rw [e]; rfl
    | succ i ih =>
      intro hi e
      apply k19
      unfold B_Sightings_nextOrder_19
      rw [show nI (i + 1) - 1 = nI i from (Int32.sub_eq_add_neg _ _).trans (m1 i)]
      refine br_f (nI_pos (by omega)) ?_
      simp (disch := omega) only [cl, forall_eq, nI_1]
      rw [o.at (show i < l.length by omega), o.at (show i + 1 < l.length by omega)]
      have g1 := gl i
      have g2 := gl (i + 1)
      refine ⟨vin (by omega) (by decide), vin (by omega) (by decide), ?_⟩
      have e' : np1 l (i + 1) = if l.getD (i + 1) 0 < l.getD i 0 then np1 l i else some i := rfl
      by_cases d : l.getD (i + 1) 0 < l.getD i 0
      · rw [e', if_pos d] at e
        refine br_f (nI_ge d (by omega)) ?_
        rw [show nI i + (-1) = nI i - 1 from (Int32.sub_eq_add_neg _ _).symm]
        exact ih (by omega) e
      · rw [e', if_neg d] at e
        refine br_t (nI_le (by omega) (by omega)) ⟨fun _ => ?_, fun z => absurd (nI_le (a := 0) (Nat.zero_le i) (by omega)) z⟩
        exact L54 i e (n - 1) (Nat.le_refl _) rfl
  unfold B_Sightings_nextOrder_i
  simp only [forall_eq]
  rw [hn, show (7 : Int32) = nI 7 from rfl, iminN (by decide) (by omega), Nat.min_eq_right h7, n1]
  exact L19 (n - 1) (Nat.le_refl _) rfl
end
