def OM (M : Mem) (l : List Nat) : Prop := ∀ e x : Nat, l[e]? = some x → M 145 e = nI x
theorem OM.at {M : Mem} {l : List Nat} (o : OM M l) {e : Nat} (h : e < l.length) : M 145 e = nI (l.getD e 0) := by
  refine o e _ ?_
  rw [List.getD_eq_getElem?_getD, List.getElem?_eq_getElem h]; rfl
theorem sw2_len (l : List Nat) (i j : Nat) : (sw2 l i j).length = l.length := by unfold sw2; rw [List.length_set, List.length_set]
theorem sw2_lt {l : List Nat} {i j n : Nat} (hi : i < l.length) (hj : j < l.length) (h : ∀ x, x ∈ l → x < n) : ∀ x, x ∈ sw2 l i j → x < n := by
  intro x hx
  unfold sw2 at hx
  rcases List.mem_or_eq_of_mem_set hx with z | z
  · rcases List.mem_or_eq_of_mem_set z with y | y
    · exact h x y
    · rw [y]; exact h _ (mem_getD hj)
  · rw [z]; exact h _ (mem_getD hi)
section
variable {M : Mem} {n : Nat} {l : List Nat}
/-- only the order changes -/
def Fd (M M' : Mem) : Prop := ∀ q, q ≠ 145 → M' q = M q
theorem s_swap2 {i j : Nat} {post : Mem → Prop} (o : OM M l) (hl : l.length ≤ 7) (hi : i < l.length) (hj : j < l.length) (k : ∀ M', OM M' (sw2 l i j) → Fd M M' → post M') : P_Sightings_swap M (nI i) (nI j) post := by
  unfold P_Sightings_swap B_Sightings_swap_i
  simp (disch := omega) only [cl, forall_eq]
  rw [o.at hi, o.at hj]
  refine ⟨vin (by omega) (by decide), vin (by omega) (by decide), vin (by omega) (by decide), vin (by omega) (by decide), k _ (fun e x hx => ?_) (fun q hq => by rw [mset_ne hq, mset_ne hq])⟩
  unfold sw2 at hx
  by_cases c : e = j
  · subst c
    rw [ms_s]
    rw [List.getElem?_set_self (by rw [List.length_set]; exact hj)] at hx
    exact congrArg nI (Option.some.inj hx)
  · rw [ms_j c]
    rw [List.getElem?_set_ne (fun z => c z.symm)] at hx
    by_cases d : e = i
    · subst d
      rw [ms_s]
      rw [List.getElem?_set_self hi] at hx
      exact congrArg nI (Option.some.inj hx)
    · rw [ms_j d]
      rw [List.getElem?_set_ne (fun z => d z.symm)] at hx
      exact o e x hx
theorem s_next {post : Int32 → Mem → Prop} (hn : M 4 6 = nI n) (h7 : n ≤ 7) (h1 : 1 ≤ n) (hl : l.length = n) (hx : ∀ x, x ∈ l → x < n) (o : OM M l) (k0 : npx n l = none → post 0 M) (k1 : ∀ l', npx n l = some l' → ∀ M', OM M' l' → Fd M M' → post 1 M') : P_Sightings_nextOrder M post := by
  intro R10 R53 R79 R100 k10 k53 k79 k100
  have gl : ∀ e, l.getD e 0 < 7 := fun e => by
    by_cases c : e < l.length
    · have := hx _ (mem_getD (d := 0) c); omega
    · rw [List.getD_eq_getElem?_getD, List.getElem?_eq_none (by omega)]; decide
  have m1 : ∀ i, nI (i + 1) + (-1) = nI i := fun i => (Int32.sub_eq_add_neg _ _).symm.trans (by rw [← nI_1]; exact Int32.add_sub_cancel _ _)
  have n1 : nI n - 1 = nI (n - 1) := pk_sub (b := 1) h1
  -- turned round
  have L100 : ∀ f a b l2 M2 (t : List Nat), b ≤ a + f → b < n → l2.length = n → OM M2 l2 → Fd M M2 → npx n l = some (np3 f l2 a b) → R100 M2 (nI a) (nI b) := by
    intro f
    induction f with
    | zero =>
      intro a b l2 M2 t hf hb hl2 o2 F e
      apply k100
      unfold B_Sightings_nextOrder_100
      exact ⟨fun _ => k1 _ e M2 o2 F, fun z => absurd (show nI b ≤ nI a from sorry) z⟩
    | succ f ih => sorry
  sorry
end
