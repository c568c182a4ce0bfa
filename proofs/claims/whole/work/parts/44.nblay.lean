theorem nI_nem1 {c : Nat} (h : c < 2 ^ 31) : ¬ nI c = -1 := by
  intro e
  have h1 := nI_pos' h
  rw [e] at h1
  exact absurd h1 (by decide)
def DR (M : Mem) (t : GT) : Prop := M 11 6 = nI t.1.length ∧ M 11 7 = nI t.2.length ∧ (∀ k, k < t.1.length → M 12 k = nI ((t.1.getD k []).getD 0 0) ∧ M 13 k = nI ((t.1.getD k []).getD 1 0) ∧ M 14 k = nI ((t.1.getD k []).getD 2 0) ∧ M 15 k = nI ((t.1.getD k []).getD 3 0) ∧ M 16 k = nI ((t.1.getD k []).getD 4 0)) ∧ ∀ k, k < 7 → M 17 k = nI (t.2.getD k 0)
/-- cells that reading a text changes -/
def FT (M M' : Mem) : Prop := ∀ q, q ≠ 3 → (q < 11 ∨ 18 ≤ q) → M' q = M q
theorem FT.rf {M : Mem} : FT M M := fun _ _ _ => rfl
theorem FT.tr {M M1 M2 : Mem} (a : FT M M1) (b : FT M1 M2) : FT M M2 := fun q h1 h2 => (b q h1 h2).trans (a q h1 h2)
theorem FT.set {M M1 : Mem} {q i : Nat} {v : Int32} (a : FT M M1) (h : q = 3 ∨ (11 ≤ q ∧ q < 18)) : FT M (mset M1 q i v) := fun r h1 h2 => by
  rw [mset_ne (by omega)]; exact a r h1 h2
theorem getD_app_l {α : Type} {l : List α} {a d : α} {k : Nat} (h : k < l.length) : (l ++ [a]).getD k d = l.getD k d := by
  rw [List.getD_eq_getElem?_getD, List.getD_eq_getElem?_getD, List.getElem?_append_left h]
theorem getD_app_r {α : Type} {l : List α} {a d : α} : (l ++ [a]).getD l.length d = a := by
  rw [List.getD_eq_getElem?_getD, List.getElem?_append_right (Nat.le_refl _), Nat.sub_self]; rfl
theorem getD_app_o {α : Type} {l : List α} {a d : α} {k : Nat} (h : k ≠ l.length) : (l ++ [a]).getD k d = l.getD k d := by
  by_cases c : k < l.length
  · exact getD_app_l c
  · rw [List.getD_eq_getElem?_getD, List.getD_eq_getElem?_getD, List.getElem?_eq_none (by rw [List.length_append]; show l.length + 1 ≤ k; omega), List.getElem?_eq_none (by omega)]
section
variable {M : Mem} {x : List Nat} {t : GT}
theorem s_clear {post : Mem → Prop} (k : ∀ M', DR M' ([], []) → FT M M' → post M') : P_Plan_clear M 11 post := by
  intro R12 k12
  have L : ∀ i, i ≤ 7 → ∀ M1, (M1 11 6 = 0 ∧ M1 11 7 = 0 ∧ ∀ j, j < i → M1 17 j = 0) → FT M M1 → R12 M1 (nI i) := by
    refine up_loop (fun i hi ih M1 q f => ?_) (fun M1 q f => ?_)
    · apply k12
      unfold B_Plan_clear_12
      simp (disch := omega) only [cl, nI_1, forall_eq]
      refine br_f (nI_ge (b := 7) hi (by decide)) ⟨vin (by omega) (by decide), ih _ ⟨?_, ?_, fun j hj => ?_⟩ (f.set (by omega))⟩
      · rw [ms_k (by decide)]; exact q.1
      · rw [ms_k (by decide)]; exact q.2.1
      · by_cases e : j = i
        · subst e; exact ms_s _ _ _ _
        · rw [ms_j e]; exact q.2.2 j (by omega)
    · apply k12
      unfold B_Plan_clear_12
      refine br_t (nI_le (Nat.le_refl 7) (by decide)) (k M1 ⟨q.1, q.2.1, fun j hj => absurd hj (Nat.not_lt_zero _), fun j hj => ?_⟩ f)
      rw [q.2.2 j hj]
      cases j <;> rfl
  unfold B_Plan_clear_i
  simp only [forall_eq]
  exact L 0 (by decide) _ ⟨by rw [ms_j (by decide), ms_s], ms_s _ _ _ _, fun j hj => absurd hj (Nat.not_lt_zero _)⟩ ((FT.rf.set (by omega)).set (by omega))
theorem s_addG {post : Int32 → Mem → Prop} {l : List Nat} (D : DR M t) (h7 : t.1.length ≤ 7) (g : ∀ j, j < 5 → M 3 j = nI (l.getD j 0)) (k0 : t.1.length = 7 → post 0 M) (k1 : t.1.length < 7 → ∀ M', DR M' (t.1 ++ [l], t.2) → FT M M' → post 1 M') : P_Plan_addGuest M 11 3 post := by
  unfold P_Plan_addGuest B_Plan_addGuest_i
  obtain ⟨d1, d2, d3, d4⟩ := D
  rw [d1]
  by_cases c : t.1.length < 7
  · refine br_f (nI_pos (by omega)) (br_f (nI_ge (b := 7) c (by decide)) (br_t (by decide) ?_))
    rw [show (0 : Int32).toNatClampNeg = 0 from rfl, show (1 : Int32).toNatClampNeg = 1 from rfl, show (2 : Int32).toNatClampNeg = 2 from rfl, show (3 : Int32).toNatClampNeg = 3 from rfl, show (4 : Int32).toNatClampNeg = 4 from rfl]
    simp (disch := omega) only [cl, forall_eq, ms_k, d1, nI_1]
    refine ⟨vin (n := 0) (by decide) (by decide), vin (by omega) (by decide), vin (n := 1) (by decide) (by decide), vin (by omega) (by decide), vin (n := 2) (by decide) (by decide), vin (by omega) (by decide), vin (n := 3) (by decide) (by decide), vin (by omega) (by decide), vin (n := 4) (by decide) (by decide), vin (by omega) (by decide), k1 c _ ⟨?_, ?_, fun j hj => ?_, fun j hj => ?_⟩ ((((((FT.rf.set (by omega)).set (by omega)).set (by omega)).set (by omega)).set (by omega)).set (by omega))⟩
    · rw [ms_s, List.length_append]; rfl
    · rw [ms_j (by decide), ms_k (by decide), ms_k (by decide), ms_k (by decide), ms_k (by decide), ms_k (by decide)]; exact d2
    · have hj : j < (t.1 ++ [l]).length := hj
      rw [List.length_append] at hj
      have hj : j < t.1.length + 1 := hj
      show _ = nI (((t.1 ++ [l]).getD j []).getD 0 0) ∧ _ = nI (((t.1 ++ [l]).getD j []).getD 1 0) ∧ _ = nI (((t.1 ++ [l]).getD j []).getD 2 0) ∧ _ = nI (((t.1 ++ [l]).getD j []).getD 3 0) ∧ _ = nI (((t.1 ++ [l]).getD j []).getD 4 0)
      by_cases e : j = t.1.length
      · subst e
        rw [getD_app_r]
        simp (disch := omega) only [ms_k, ms_s, g 0 (by decide), g 1 (by decide), g 2 (by decide), g 3 (by decide), g 4 (by decide), and_self]
      · rw [getD_app_o e]
        simp (disch := omega) only [ms_k, ms_j e]
        exact d3 j (by omega)
    · simp (disch := omega) only [ms_k]
      exact d4 j hj
  · exact br_f (nI_pos (by omega)) (br_t (nI_le (a := 7) (by omega) (by omega)) (k0 (by omega)))
theorem s_addR {post : Int32 → Mem → Prop} {v : Nat} (D : DR M t) (h7 : t.2.length ≤ 7) (k0 : t.2.length = 7 → post 0 M) (k1 : t.2.length < 7 → ∀ M', DR M' (t.1, t.2 ++ [v]) → FT M M' → post 1 M') : P_Plan_addRoom M 11 (nI v) post := by
  unfold P_Plan_addRoom B_Plan_addRoom_i
  obtain ⟨d1, d2, d3, d4⟩ := D
  rw [d2]
  by_cases c : t.2.length < 7
  · refine br_f (nI_pos (by omega)) (br_t (nI_lt (b := 7) c (by decide)) ⟨vin (by omega) (by decide), ?_⟩)
    simp (disch := omega) only [cl, forall_eq, ms_k, d2, nI_1]
    refine k1 c _ ⟨?_, ?_, fun j hj => ?_, fun j hj => ?_⟩ ((FT.rf.set (by omega)).set (by omega))
    · rw [ms_j (by decide), ms_k (by decide)]; exact d1
    · rw [ms_s, List.length_append]; rfl
    · simp (disch := omega) only [ms_k]
      exact d3 j hj
    · rw [ms_k (by decide)]
      show _ = nI ((t.2 ++ [v]).getD j 0)
      by_cases e : j = t.2.length
      · subst e; rw [ms_s, getD_app_r]
      · rw [ms_j e, getD_app_o e]; exact d4 j hj
  · exact br_f (nI_pos (by omega)) (br_f (nI_nlt (a := t.2.length) (b := 7) (by omega) (by omega)) (k0 (by omega)))
theorem DR.of {M M' : Mem} (D : DR M t) (f : ∀ q, 11 ≤ q → q < 18 → M' q = M q) : DR M' t := by
  unfold DR
  rw [f 11 (by decide) (by decide), f 12 (by decide) (by decide), f 13 (by decide) (by decide), f 14 (by decide) (by decide), f 15 (by decide) (by decide), f 16 (by decide) (by decide), f 17 (by decide) (by decide)]
  exact D
theorem s_item {i : Nat} {post : Int32 → Mem → Prop} (tx : TX M x) (hl : x.length ≤ 200) (hx : ∀ c, c ∈ x → c < 127) (hi : i < 2 ^ 19) (D : DR M t) (o : okT t) (k0 : itm x i t = none → ∀ M', FT M M' → post (-1) M') (k1 : ∀ r, itm x i t = some r → ∀ M', DR M' r.2 → FT M M' → post (nI r.1) M') : P_Script_readItem M (nI i) 11 post := by
  have h127 := lc_31 hx i
  unfold P_Script_readItem B_Script_readItem_i
  refine s_letter tx hl (by omega) ?_
  simp only [forall_eq, nI_1]
  by_cases c : lc x i = 103
  · refine brn_t (by rw [c]; rfl) ?_
    refine s_numbers (sp := spG) tx hl hx (by omega) (by decide) rfl rfl tb_G (by decide) (fun e M1 f => ?_) (fun r e M1 f g => ?_)
    · refine br_t rfl (k0 ?_ M1 (fun q h1 h2 => f q h1))
      unfold itm; rw [if_pos c, e]
    · have hr := rdN_lt spG (i + 1) r e
      have hr3 : r.1 ≤ i + 1 + 15 := hr.2.2.1
      refine br_f (nI_nem1 (by omega)) ?_
      have f1 : FT M M1 := fun q h1 h2 => f q h1
      refine s_addG (D.of (fun q h1 h2 => f q (by omega))) o.1 (l := r.2) (fun j hj => g j hj) (fun z => br_t rfl (k0 ?_ M1 f1)) (fun z M2 D2 f2 => br_f (by decide) (k1 (r.1, (t.1 ++ [r.2], t.2)) ?_ M2 D2 (f1.tr f2)))
      · unfold itm; rw [if_pos c, e]; simp only; rw [if_pos z]
      · unfold itm; rw [if_pos c, e]; simp only; rw [if_neg (by omega)]
  · refine brn_f (fun z => c (nI_inj (b := 103) (by omega) (by decide) z)) (s_letter tx hl (by omega) ?_)
    by_cases d : lc x i = 114
    · refine brn_t (by rw [d]; rfl) ?_
      refine s_numbers (sp := spR) tx hl hx (by omega) (by decide) rfl rfl tb_R (by decide) (fun e M1 f => ?_) (fun r e M1 f g => ?_)
      · refine br_t rfl (k0 ?_ M1 (fun q h1 h2 => f q h1))
        unfold itm; rw [if_neg c, if_pos d, e]
      · have hr := rdN_lt spR (i + 1) r e
        have hr3 : r.1 ≤ i + 1 + 3 := hr.2.2.1
        refine br_f (nI_nem1 (by omega)) ⟨vin (n := 0) (by decide) (by decide), ?_⟩
        have f1 : FT M M1 := fun q h1 h2 => f q h1
        rw [show (0 : Int32).toNatClampNeg = 0 from rfl, g 0 (by decide)]
        refine s_addR (D.of (fun q h1 h2 => f q (by omega))) o.2.1 (fun z => br_t rfl (k0 ?_ M1 f1)) (fun z M2 D2 f2 => br_f (by decide) (k1 (r.1, (t.1, t.2 ++ [r.2.getD 0 0])) ?_ M2 D2 (f1.tr f2)))
        · unfold itm; rw [if_neg c, if_pos d, e]; simp only; rw [if_pos z]
        · unfold itm; rw [if_neg c, if_pos d, e]; simp only; rw [if_neg (by omega)]
    · refine brn_f (fun z => d (nI_inj (b := 114) (by omega) (by decide) z)) (k0 ?_ M FT.rf)
      unfold itm; rw [if_neg c, if_neg d]
theorem s_into {post : Int32 → Mem → Prop} (tx : TX M x) (hl : x.length ≤ 200) (hx : ∀ c, c ∈ x → c < 127) (k0 : ∀ i, prs x 201 0 ([], []) = .inl i → i < 2 ^ 31 → ∀ M', FT M M' → post (nI i) M') (k1 : ∀ t, prs x 201 0 ([], []) = .inr t → okT t → ∀ M', DR M' t → FT M M' → post (-4) M') : P_Script_readInto M 11 post := by
  intro R8 k8
  have L : ∀ d c i (t : GT) M1, c + d = 201 → c ≤ i → i ≤ x.length + 16 → okT t → DR M1 t → FT M M1 → prs x d i t = prs x 201 0 ([], []) → R8 M1 (nI i) (nI c) := by
    intro d
    induction d with
    | zero =>
      intro c i t M1 e1 e2 e3 o D f ep
      apply k8
      unfold B_Script_readInto_8
      exact br_t (nI_le (a := 200) (b := c) (by omega) (by omega)) (k1 t ep.symm o M1 D f)
    | succ d ih =>
      intro c i t M1 e1 e2 e3 o D f ep
      apply k8
      unfold B_Script_readInto_8
      have tx1 : TX M1 x := by unfold TX; rw [f 1 (by decide) (by decide), f 2 (by decide) (by decide)]; exact tx
      rw [tx1.1]
      unfold prs at ep
      by_cases c2 : x.length ≤ i
      · rw [if_pos c2] at ep
        have kk := k1 t ep.symm o M1 D f
        exact br_c (fun _ => kk) (fun _ => br_t (nI_le c2 (by omega)) kk)
      · rw [if_neg c2] at ep
        refine br_f (nI_ge (b := 200) (by omega) (by decide)) (br_f (nI_ge (by omega) (by omega)) ?_)
        refine s_item tx1 hl hx (by omega) D o (fun e M2 f2 => ?_) (fun r e M2 D2 f2 => ?_)
        · simp only [forall_eq]
          rw [e] at ep
          exact ⟨fun z => absurd trivial z, fun _ => k0 i ep.symm (by omega) M2 (f.tr f2)⟩
        · obtain ⟨r1, r2, r3⟩ := itm_ok o e
          simp only [forall_eq, nI_1]
          rw [e] at ep
          exact brn_f (nI_nem1 (by omega)) (ih (c + 1) r.1 r.2 M2 (by omega) (by omega) (by omega) r3 D2 (f.tr f2) ep)
  unfold B_Script_readInto_i
  refine s_clear (fun M1 D f => ?_)
  simp only [forall_eq]
  exact L 201 0 0 ([], []) M1 rfl (Nat.le_refl _) (Nat.zero_le _) ⟨Nat.zero_le _, Nat.zero_le _, ⟨fun l h => absurd h List.not_mem_nil, fun l h => absurd h List.not_mem_nil⟩⟩ D f rfl
end
