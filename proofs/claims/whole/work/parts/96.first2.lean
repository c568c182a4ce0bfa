/-- the first text -/
def ft : List Nat := [103, 48, 44, 50, 44, 49, 48, 44, 52, 44, 51, 59, 103, 49, 44, 52, 44, 56, 44, 57, 44, 50, 59, 103, 50, 44, 53, 44, 54, 44, 48, 44, 49, 59, 103, 48, 44, 55, 44, 49, 50, 44, 53, 44, 52, 59, 103, 51, 44, 55, 44, 57, 44, 50, 44, 50, 59, 103, 48, 44, 49, 53, 44, 53, 44, 54, 44, 51, 59, 114, 50, 59, 114, 53, 59, 114, 49, 59, 114, 52, 59, 114, 48, 59, 114, 51, 59]
theorem ft_len : ft.length = 87 := rfl
theorem ft_prs : prs ft 201 0 ([], []) = .inr t0 := by decide +kernel
theorem ft_lt : ∀ c, c ∈ ft → c < 127 := by decide
section
variable {M : Mem}
theorem x_app {x : List Nat} {c : Nat} {post : Int32 → Mem → Prop} (h : TX M x) (hl : x.length < 200) (k : ∀ M', TX M' (x ++ [c]) → (∀ q, q ≠ 1 → q ≠ 2 → M' q = M q) → post 1 M') : P_Script_append M (nI c) post := by
  unfold P_Script_append B_Script_append_i
  obtain ⟨R5, R6⟩ := h
  rw [R5]
  refine br_f (nI_pos (by omega)) (br_t (nI_lt (b := 200) hl (by decide)) ⟨vin (by omega) (by decide), ?_⟩)
  simp (disch := omega) only [cl, forall_eq, ms_k, R5, nI_1]
  refine k _ ⟨?_, fun i y hy => ?_⟩ (fun q h1 h2 => by rw [mset_ne h1, mset_ne h2])
  · rw [ms_s, List.length_append]; rfl
  · rw [ms_k (by decide)]
    by_cases zz : i = x.length
    · subst zz
      rw [List.getElem?_append_right (Nat.le_refl _), Nat.sub_self] at hy
      cases hy
      rw [ms_s]
    · have hi := (List.getElem?_eq_some_iff.mp hy).1
      rw [List.length_append, List.length_singleton] at hi
      rw [List.getElem?_append_left (by omega)] at hy
      rw [ms_j zz]; exact R6 i y hy
theorem x_first {n0 : Nat} {post : Mem → Prop} (h : TX M ft) (S1 : SF M 40 8 n0 []) (S2 : SF M 106 2 n0 []) (k : ∀ M', RX s0 M' → post M') : P_NB_layScript M (fun _ M1 => P_Script_clear M1 post) := by
  refine s_layS h (by rw [ft_len]; decide) ft_lt S1 S2 (fun z => absurd (z t0 ft_prs) (by decide)) (fun t e o c M1 R => ?_)
  rw [ft_prs] at e
  cases e
  unfold P_Script_clear B_Script_clear_i
  simp only [forall_eq]
  exact k _ (rx_text R (fun q hq => mset_ne (by omega)) ⟨ms_s _ _ _ _, fun i y hy => (Option.some_ne_none y hy.symm).elim⟩)
end
