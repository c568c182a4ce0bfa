section
variable {M : Mem} {x : List Nat}
theorem lc_31 {x : List Nat} (hx : ∀ c, c ∈ x → c < 127) (i : Nat) : lc x i < 127 := by
  unfold lc
  by_cases c : i < x.length
  · exact hx _ (mem_getD c)
  · rw [List.getD_eq_getElem?_getD, List.getElem?_eq_none (by omega)]
    show 0 < 127
    decide
theorem s_letter {i : Nat} {post : Int32 → Mem → Prop} (tx : TX M x) (hl : x.length ≤ 200) (hi : i < 2 ^ 31) (k : post (nI (lc x i)) M) : P_Script_letterAt M (nI i) post := by
  unfold P_Script_letterAt B_Script_letterAt_i
  rw [tx.1]
  refine br_f (nI_pos hi) ?_
  by_cases c : i < x.length
  · refine br_f (nI_ge c (by omega)) (br_f (nI_ge (b := 200) (by omega) (by decide)) ⟨vin (by omega) (by decide), ?_⟩)
    rw [cl hi, tx.2 i (lc x i) (by unfold lc; rw [List.getD_eq_getElem?_getD, List.getElem?_eq_getElem c]; rfl)]
    exact k
  · refine br_t (nI_le (by omega) hi) ?_
    have e : lc x i = 0 := by unfold lc; rw [List.getD_eq_getElem?_getD, List.getElem?_eq_none (by omega)]; rfl
    rw [e] at k
    exact k
theorem s_figure {i : Nat} {post : Int32 → Mem → Prop} (tx : TX M x) (hl : x.length ≤ 200) (hx : ∀ c, c ∈ x → c < 127) (hi : i < 2 ^ 31) (k1 : fg x i → post 1 M) (k0 : ¬ fg x i → post 0 M) : P_Script_isFigure M (nI i) post := by
  have h127 := lc_31 hx i
  unfold P_Script_isFigure B_Script_isFigure_i
  refine s_letter tx hl hi (br_c (fun c => k0 (fun z => ?_)) (fun c => s_letter tx hl hi (br_c (fun d => k0 (fun z => ?_)) (fun d => k1 ⟨?_, ?_⟩))))
  · have := (nI_ltI (a := lc x i) (b := 48) (by omega) (by decide)).mp c
    have := z.1; omega
  · have := (nI_ltI (a := 57) (b := lc x i) (by decide) (by omega)).mp d
    have := z.2; omega
  · exact Nat.not_lt.mp (fun z => c ((nI_ltI (a := lc x i) (b := 48) (by omega) (by decide)).mpr z))
  · exact Nat.not_lt.mp (fun z => d ((nI_ltI (a := 57) (b := lc x i) (by decide) (by omega)).mpr z))
/-- the tables of bounds -/
theorem tb_G : ∀ i, i < 5 → tva 0 i = nI (spG.getD i (0, 0)).1 ∧ tva 1 i = nI (spG.getD i (0, 0)).2 := by decide +kernel
theorem tb_R : ∀ i, i < 1 → tva 2 i = nI (spR.getD i (0, 0)).1 ∧ tva 3 i = nI (spR.getD i (0, 0)).2 := by decide +kernel
theorem s_numbers {i0 t1 t2 : Nat} {sp : List (Nat × Nat)} {post : Int32 → Mem → Prop} (tx : TX M x) (hl : x.length ≤ 200) (hx : ∀ c, c ∈ x → c < 127) (hi0 : i0 < 2 ^ 20) (hs : sp.length ≤ 5) (l1 : tln t1 = sp.length) (l2 : tln t2 = sp.length) (hb : ∀ i, i < sp.length → tva t1 i = nI (sp.getD i (0, 0)).1 ∧ tva t2 i = nI (sp.getD i (0, 0)).2) (hq : ∀ q, q ∈ sp → q.1 < 100 ∧ q.2 < 100)
    (k0 : rdN x sp i0 = none → ∀ M', (∀ q, q ≠ 3 → M' q = M q) → post (-1) M') (k1 : ∀ r, rdN x sp i0 = some r → ∀ M', (∀ q, q ≠ 3 → M' q = M q) → (∀ j, j < sp.length → M' 3 j = nI (r.2.getD j 0)) → post (nI r.1) M') : P_Script_readNumbers M (nI i0) t1 t2 post := by
  intro R23 R36 R80 R134 k23 k36 k80 k134
  have L : ∀ d i, i + d = sp.length → ∀ M1 at0 (l0 : List Nat), l0.length = i → at0 < 2 ^ 20 + 3 * i → (∀ q, q ≠ 3 → M1 q = M q) → (∀ j, j < i → M1 3 j = nI (l0.getD j 0)) → (rdN x (sp.drop i) at0 = none → rdN x sp i0 = none) → (∀ r, rdN x (sp.drop i) at0 = some r → rdN x sp i0 = some (r.1, l0 ++ r.2)) → R23 M1 (nI sp.length) (nI at0) (nI i) := by
    intro d
    induction d with
    | zero =>
      intro i e M1 at0 l0 hl0 ha f g c0 c1
      apply k23
      unfold B_Script_readNumbers_23
      have ei : i = sp.length := by omega
      subst ei
      refine br_t (nI_le (Nat.le_refl _) (by omega)) ?_
      have e1 := c1 (at0, []) (by rw [List.drop_eq_nil_of_le (Nat.le_refl _)]; rfl)
      refine k1 _ e1 M1 f (fun j hj => ?_)
      rw [List.append_nil]
      exact g j hj
    | succ d ih =>
      intro i e M1 at0 l0 hl0 ha f g c0 c1
      have hi : i < sp.length := by omega
      have tx1 : TX M1 x := by unfold TX; rw [f 1 (by decide), f 2 (by decide)]; exact tx
      obtain ⟨b1, b2⟩ := hb i hi
      have hqi := hq _ (mem_getD (d := (0, 0)) hi)
      have edrop : sp.drop i = sp.getD i (0, 0) :: sp.drop (i + 1) := by
        rw [List.getD_eq_getElem?_getD, List.getElem?_eq_getElem hi]
        exact List.drop_eq_getElem_cons hi
      have elen : (sp.drop (i + 1)).length = sp.length - (i + 1) := List.length_drop
      have h0 := lc_31 hx at0
      have h1 := lc_31 hx (at0 + 1)
      have h2 := lc_31 hx (at0 + 2)
      generalize hsg : (if (sp.drop (i + 1)).length = 0 then 59 else 44) = sg at *
      have hsg2 : sg = 59 ∨ sg = 44 := by rw [← hsg]; split <;> omega
      -- behind the figures
      have fin : ∀ (kf v : Nat), 1 ≤ kf → kf ≤ 2 → v < 100 → (tkN x at0 (sp.getD i (0, 0)).1 (sp.getD i (0, 0)).2 sg = if (sp.getD i (0, 0)).1 ≤ v ∧ v ≤ (sp.getD i (0, 0)).2 ∧ lc x (at0 + kf) = sg then some (at0 + kf + 1, v) else none) → R80 M1 (nI sp.length) (nI at0) (nI i) (nI kf) (nI v) := by
        intro kf v hk1 hk2 hv et
        apply k80
        unfold B_Script_readNumbers_80
        have hk := lc_31 hx (at0 + kf)
        simp (disch := omega) only [cl, nI_add, nI_1, forall_eq]
        rw [b1, b2, l1, l2]
        have er : rdN x (sp.drop i) at0 = match tkN x at0 (sp.getD i (0, 0)).1 (sp.getD i (0, 0)).2 sg with
          | none => none
          | some r => match rdN x (sp.drop (i + 1)) r.1 with
            | none => none
            | some t => some (t.1, r.2 :: t.2) := by
          rw [edrop, rdN, hsg]
          rfl
        refine br_f (nI_ne0 (by omega) (by omega)) ⟨vin hi (by omega), br_c (fun c => ?_) (fun c => ⟨vin hi (by omega), br_c (fun d2 => ?_) (fun d2 => ?_)⟩)⟩
        · have c := (nI_ltI (by omega) (by omega)).mp c
          rw [if_neg (by omega)] at et
          exact k0 (c0 (by rw [er, et])) M1 f
        · have c : (sp.getD i (0, 0)).1 ≤ v := by
            exact Nat.not_lt.mp (fun z => c ((nI_ltI (a := v) (b := (sp.getD i (0, 0)).1) (by omega) (by omega)).mpr z))
          have d2 := (nI_leI (by omega) (by omega)).mp d2
          refine s_letter tx1 hl (by omega) ?_
          have key : R134 M1 (nI sp.length) (nI (at0 + kf)) (nI i) (nI v) (nI sg) (nI (lc x (at0 + kf))) := by
            apply k134
            unfold B_Script_readNumbers_134
            simp (disch := omega) only [cl, nI_1, forall_eq]
            by_cases cs : lc x (at0 + kf) = sg
            · refine br_t (by rw [cs]) ⟨vin (by omega) (by decide), ?_⟩
              rw [if_pos ⟨c, d2, cs⟩] at et
              refine ih (i + 1) (by omega) _ (at0 + kf + 1) (l0 ++ [v]) (by rw [List.length_append, hl0]; rfl) (by omega) (fun q hq => by rw [mset_ne hq]; exact f q hq) (fun j hj => ?_) (fun z => c0 (by rw [er, et]; simp only; rw [z])) (fun r z => ?_)
              · by_cases ej : j = i
                · subst ej
                  rw [ms_s, List.getD_eq_getElem?_getD, List.getElem?_append_right (by omega), hl0, Nat.sub_self]; rfl
                · rw [ms_j ej, g j (by omega), List.getD_eq_getElem?_getD, List.getD_eq_getElem?_getD, List.getElem?_append_left (by omega)]
              · have := c1 (r.1, v :: r.2) (by rw [er, et]; simp only; rw [z])
                rw [this, List.append_assoc]; rfl
            · refine br_f (fun z => cs (nI_inj (by omega) (by omega) z)) ?_
              rw [if_neg (fun z => cs z.2.2)] at et
              exact k0 (c0 (by rw [er, et])) M1 f
          by_cases cl0 : sp.length ≤ i + 1
          · have : sg = 59 := by rw [← hsg, if_pos (by omega)]
            refine br_t (nI_le cl0 (by omega)) ?_
            rw [this] at key
            exact key
          · have : sg = 44 := by rw [← hsg, if_neg (by omega)]
            refine br_f (nI_ge (by omega) (by omega)) ?_
            rw [this] at key
            exact key
        · have d2 := fun z => d2 ((nI_leI (a := v) (b := (sp.getD i (0, 0)).2) (by omega) (by omega)).mpr z)
          rw [if_neg (fun z => d2 z.2.1)] at et
          exact k0 (c0 (by rw [er, et])) M1 f
      apply k23
      unfold B_Script_readNumbers_23
      simp only [forall_eq]
      refine br_f (nI_ge hi (by omega)) ?_
      -- no figure yet
      apply k36
      unfold B_Script_readNumbers_36
      refine br_f (by decide) ?_
      rw [a0]
      refine s_figure tx1 hl hx (by omega) (fun q0 => br_f (by decide) ?_) (fun q0 => br_t rfl ?_)
      · refine s_letter tx1 hl (by omega) ?_
        simp only [forall_eq]
        have q01 := q0.1
        have ev : ((0 : Int32) * 10 + nI (lc x at0)) - 48 = nI (lc x at0 - 48) := by
          rw [show (0 : Int32) * 10 = nI 0 from by decide, nI_add, Nat.zero_add]
          exact pk_sub (b := 48) q01
        rw [ev, show (0 : Int32) + 1 = nI 1 from by decide]
        apply k36
        unfold B_Script_readNumbers_36
        refine br_f (by decide) ?_
        rw [nI_add]
        refine s_figure tx1 hl hx (by omega) (fun q1 => br_f (by decide) ?_) (fun q1 => br_t rfl ?_)
        · refine s_letter tx1 hl (by omega) ?_
          simp only [forall_eq]
          have q11 := q1.1
          have q02 := q0.2
          have q12 := q1.2
          have ev2 : (nI (lc x at0 - 48) * 10 + nI (lc x (at0 + 1))) - 48 = nI ((lc x at0 - 48) * 10 + (lc x (at0 + 1) - 48)) := by
            rw [show (10 : Int32) = nI 10 from rfl, pk_mul, nI_add, show (48 : Int32) = nI 48 from rfl, pk_sub (by omega)]
            exact congrArg nI (by omega)
          rw [ev2, show nI 1 + 1 = nI 2 from by decide]
          apply k36
          unfold B_Script_readNumbers_36
          refine br_t (by decide) ?_
          refine fin 2 _ (by decide) (by decide) (by omega) ?_
          unfold tkN
          rw [if_pos q0, if_pos q1]
        · refine fin 1 _ (by decide) (by decide) (by have := q0.2; omega) ?_
          unfold tkN
          rw [if_pos q0, if_neg q1]
      · apply k80
        unfold B_Script_readNumbers_80
        refine br_t rfl (k0 (c0 ?_) M1 f)
        rw [edrop, rdN]
        unfold tkN
        rw [if_neg q0]
  unfold B_Script_readNumbers_i
  simp only [forall_eq]
  have em : imin 5 (imin (Int32.ofNat (tln t1)) (Int32.ofNat (tln t2))) = nI sp.length := by
    rw [l1, l2]
    show imin (nI 5) (imin (nI sp.length) (nI sp.length)) = nI sp.length
    have e1 : imin (nI sp.length) (nI sp.length) = nI sp.length := by unfold imin; split <;> rfl
    rw [e1]
    unfold imin
    by_cases c : sp.length < 5
    · rw [if_pos (nI_lt c (by decide))]
    · rw [if_neg (nI_nlt (by omega) (by omega)), show sp.length = 5 by omega]
  rw [em]
  exact L sp.length 0 (Nat.zero_add _) M i0 [] rfl (by omega) (fun _ _ => rfl) (fun j hj => absurd hj (Nat.not_lt_zero _)) (fun z => z) (fun r z => by rw [List.nil_append]; exact z)
end
