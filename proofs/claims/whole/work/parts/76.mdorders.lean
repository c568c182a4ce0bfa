section
variable {T : Nat} {s : ST} {N : Mem}
def SMo (s : ST) (pre : List Nat) (fl : List (List Nat)) (N : Mem) : Prop := RM s N ∧ (∀ e x : Nat, pre[e]? = some x → N 14 e = nI x) ∧ ∀ l, fl.head? = some l → ∀ k, k < pN (xP s) → N 15 k = nI (l.getD k 0)
theorem y_many {post : Int32 → Mem → Prop} (I : IX T s) (R : RM s N) (k : ∀ N', RM s N' → (∀ l, (orL (xP s) (xE s)).head? = some l → ∀ k, k < pN (xP s) → N' 15 k = nI (l.getD k 0)) → post (nI (orL (xP s) (xE s)).length) N') : P_MD_manyOrders N post := by
  have pw := I.1
  have h7 := I.1.1
  intro R11 R20 R114 R62 R138 k11 k20 k114 k62 k138
  have km : ∀ {N1 : Mem} {q i : Nat} {v : Int32}, RM s N1 → (q = 14 ∨ q = 15) → RM s (mset N1 q i v) := fun R1 hq => rm_km R1 h7 ⟨fun j _ => by rw [ms_k (by omega)], fun j _ => by rw [ms_k (by omega)], fun q h1 h2 => mset_ne (by omega)⟩ I.2.2.2.2.2.1 I.2.2.2.2.2.2.1
  -- busy
  have busy : ∀ (pre : List Nat) (N1 : Mem) (cnt : Int32), (∀ x, x ∈ pre → x < pN (xP s)) → pre.length ≤ 7 → (∀ e x : Nat, pre[e]? = some x → N1 14 e = nI x) → (∀ w, BT w pre → R20 N1 cnt (nI pre.length) w (nI pre.length)) → ∀ (B A : List Nat) (w : Int32), pre = A ++ B → BT w A → R20 N1 cnt (nI pre.length) w (nI A.length) := by
    intro pre N1 cnt hp hl e14 fin B
    induction B with
    | nil =>
      intro A w e b
      rw [List.append_nil] at e
      subst e
      exact fin w b
    | cons x B ih =>
      intro A w e b
      have hA : A.length < pre.length := by rw [e, List.length_append, List.length_cons]; omega
      have gx : N1 14 A.length = nI x := e14 _ x (by rw [e, List.getElem?_append_right (Nat.le_refl _), Nat.sub_self]; rfl)
      have hx : x < pN (xP s) := hp x (by rw [e]; exact List.mem_append_right _ (List.mem_cons_self ..))
      apply k20
      unfold B_MD_manyOrders_20
      refine br_f (nI_ge hA (by omega)) ⟨vin (by omega) (by decide), ?_⟩
      simp only [forall_eq, nI_1]
      rw [cl (by omega), gx]
      have := ih (A ++ [x]) _ (by rw [e, List.append_assoc]; rfl) (b.set (show x < 7 by omega))
      rw [List.length_append] at this
      exact this
  have nil0 : BT 0 [] := ⟨0, by decide, rfl, fun e he => ⟨fun z => absurd z (by rw [Nat.zero_div]; decide), fun z => absurd z List.not_mem_nil⟩⟩
  -- a whole order
  have leaf : ∀ (pre : List Nat) (fl : List (List Nat)) (N1 : Mem), pre.length = pN (xP s) → (∀ x, x ∈ pre → x < pN (xP s)) → pre.Nodup → fl.length < 1000000 → SMo s pre fl N1 → (∀ N', SMo s pre (fl ++ [pre].filter (okO (xP s) (xE s))) N' → R11 N' (nI (fl ++ [pre].filter (okO (xP s) (xE s))).length) (nI pre.length + (-1))) → R11 N1 (nI fl.length) (nI pre.length) := by
    intro pre fl N1 hl hp nd hf S kont
    obtain ⟨R1, e14, e15⟩ := S
    apply k11
    unfold B_MD_manyOrders_11
    refine br_f (nI_pos (by omega)) ?_
    simp only [forall_eq]
    refine busy pre N1 _ hp (by omega) e14 (fun w bw => ?_) pre [] 0 rfl nil0
    apply k20
    unfold B_MD_manyOrders_20
    rw [R1.1.1]
    refine br_t (nI_le (Nat.le_refl _) (by omega)) (brn_t (by rw [hl]) (m_areSo I R1 e14 hl hp nd (fun N2 R2 q2 => ?_)))
    cases ok : okO (xP s) (xE s) pre with
    | false =>
      rw [List.filter_cons_of_neg (by rw [ok]; decide), List.filter_nil, List.append_nil] at kont
      refine br_t rfl ?_
      simp only [forall_eq]
      exact kont N2 ⟨R2, by rw [q2 14 (by decide)]; exact e14, by rw [q2 15 (by decide)]; exact e15⟩
    | true =>
      rw [List.filter_cons_of_pos ok, List.filter_nil] at kont
      refine br_f (by decide) ?_
      simp only [forall_eq]
      have el : nI fl.length + 1 = nI (fl ++ [pre]).length := by rw [nI_1, List.length_append]; rfl
      cases hfl : fl with
      | nil =>
        subst hfl
        have L : ∀ i, i ≤ pN (xP s) → ∀ N3, RM s N3 → (∀ q, q ≠ 1 → q ≠ 15 → N3 q = N1 q) → (∀ j, j < i → N3 15 j = nI (pre.getD j 0)) → R62 N3 (nI 0) (nI pre.length) (nI i) := by
          refine up_loop (fun i hi ih N3 R3 q3 w3 => ?_) (fun N3 R3 q3 w3 => ?_)
          · have g14 : N3 14 i = nI (pre.getD i 0) := by
              rw [q3 14 (by decide) (by decide)]
              refine e14 i _ ?_
              rw [List.getD_eq_getElem?_getD, List.getElem?_eq_getElem (show i < pre.length by omega)]; rfl
            apply k62
            unfold B_MD_manyOrders_62
            rw [R3.1.1]
            simp (disch := omega) only [cl, forall_eq, g14, nI_1]
            refine br_f (nI_ge hi (by omega)) (brn_t rfl ⟨vin (by omega) (by decide), vin (by omega) (by decide), ih _ (km R3 (Or.inr rfl)) (fun q h1 h2 => by rw [mset_ne h2]; exact q3 q h1 h2) (fun j hj => ?_)⟩)
            by_cases c : j = i
            · subst c; exact ms_s _ _ _ _
            · rw [ms_j c]; exact w3 j (by omega)
          · apply k62
            unfold B_MD_manyOrders_62
            rw [R3.1.1]
            refine br_t (nI_le (Nat.le_refl _) (by omega)) ?_
            simp only [forall_eq]
            refine kont N3 ⟨R3, by rw [q3 14 (by decide) (by decide)]; exact e14, fun l0 h0 j hj => ?_⟩
            cases h0
            exact w3 j hj
        exact L 0 (Nat.zero_le _) N2 R2 (fun q h1 _ => q2 q h1) (fun j hj => absurd hj (Nat.not_lt_zero _))
      | cons l1 fl' =>
        rw [← hfl]
        have hne : ¬ nI fl.length = 0 := fun z => by
          have := nI_inj (b := 0) (by omega) (by decide) z
          rw [hfl] at this; cases this
        have fin := kont N2 ⟨R2, by rw [q2 14 (by decide)]; exact e14, fun l0 h0 j hj => by
          rw [q2 15 (by decide)]
          refine e15 l0 ?_ j hj
          rw [hfl] at h0 ⊢
          exact h0⟩
        rw [← el] at fin
        apply k62
        unfold B_MD_manyOrders_62
        rw [R2.1.1]
        simp only [forall_eq]
        exact ⟨fun _ => fin, fun _ => brn_f hne fin⟩
  -- the tree
  have tree : ∀ (r : Nat) (pre : List Nat) (fl : List (List Nat)) (N1 : Mem), r + pre.length = pN (xP s) → (∀ x, x ∈ pre → x < pN (xP s)) → pre.Nodup → fl.length + (ext (pN (xP s)) r pre).length < 1000000 → SMo s pre fl N1 → N1 14 pre.length = -1 → (∀ N', SMo s pre (fl ++ (ext (pN (xP s)) r pre).filter (okO (xP s) (xE s))) N' → R11 N' (nI (fl ++ (ext (pN (xP s)) r pre).filter (okO (xP s) (xE s))).length) (nI pre.length + (-1))) → R11 N1 (nI fl.length) (nI pre.length) := by
    intro r
    induction r with
    | zero => exact fun pre fl N1 hl hp nd hf S _ kont => leaf pre fl N1 (by omega) hp nd (by omega) S kont
    | succ r ihr =>
      intro pre fl N1 hl hp nd hf S e1 kont
      rw [ext_exk] at kont hf
      have inner : ∀ j k fl N1, k + j = pN (xP s) → fl.length + (exk (pN (xP s)) r pre j k).length < 1000000 → SMo s pre fl N1 → N1 14 pre.length + 1 = nI k → (∀ N', SMo s pre (fl ++ (exk (pN (xP s)) r pre j k).filter (okO (xP s) (xE s))) N' → R11 N' (nI (fl ++ (exk (pN (xP s)) r pre j k).filter (okO (xP s) (xE s))).length) (nI pre.length + (-1))) → R11 N1 (nI fl.length) (nI pre.length) := by
        intro j
        induction j using Nat.strongRecOn with
        | _ j ih =>
          intro k fl N1 hk hf S ek kont
          obtain ⟨R1, e14, e15⟩ := S
          apply k11
          unfold B_MD_manyOrders_11
          refine br_f (nI_pos (by omega)) ?_
          simp only [forall_eq]
          refine busy pre N1 _ hp (by omega) e14 (fun w bw => ?_) pre [] 0 rfl nil0
          apply k20
          unfold B_MD_manyOrders_20
          rw [R1.1.1]
          refine br_t (nI_le (Nat.le_refl _) (by omega)) (brn_f (fun z => by have := nI_inj (by omega) (by omega) z; omega) ⟨vin (by omega) (by decide), ?_⟩)
          simp only [forall_eq]
          rw [cl (by omega), ek]
          have put : ∀ i, SMo s pre fl (mset N1 14 pre.length i) := fun i => by
            refine ⟨km R1 (Or.inl rfl), fun e x hx => ?_, fun l h0 j hj => by rw [ms_k (by decide)]; exact e15 l h0 j hj⟩
            have := (List.getElem?_eq_some_iff.mp hx).1
            rw [ms_j (by omega)]; exact e14 e x hx
          have fin : ∀ i, i ≤ pN (xP s) → k ≤ i → (∀ i', k ≤ i' → i' < i → i' ∈ pre) → (i < pN (xP s) → i ∉ pre) → R138 N1 (nI fl.length) (nI pre.length) (nI i) := by
            intro i hi hki hall hno
            obtain ⟨p1, p2, p3⟩ := put (nI i)
            have en : mset N1 14 pre.length (nI i) 0 3 = nI (pN (xP s)) := by rw [ms_k (by decide)]; exact R1.1.1
            apply k138
            unfold B_MD_manyOrders_138
            simp (disch := omega) only [cl, forall_eq, nI_1, en]
            refine ⟨vin (by omega) (by decide), ?_⟩
            by_cases c : i < pN (xP s)
            · have ci := hno c
              obtain ⟨j', ej⟩ : ∃ j', j = (i - k) + (j' + 1) := ⟨pN (xP s) - i - 1, by omega⟩
              have sk := skip (m := pN (xP s)) (r := r) (pre := pre) (i - k) (j' + 1) k (fun i' h1 h2 => hall i' h1 (by omega))
              rw [← ej, show k + (i - k) = i by omega] at sk
              have sk1 : exk (pN (xP s)) r pre j k = ext (pN (xP s)) r (pre ++ [i]) ++ exk (pN (xP s)) r pre j' (i + 1) := by
                rw [sk.1]
                show (if i ∈ pre then [] else ext (pN (xP s)) r (pre ++ [i])) ++ _ = _
                rw [if_neg ci]
              rw [sk1, List.filter_append, ← List.append_assoc] at kont
              rw [sk1, List.length_append] at hf
              have hl1 : (pre ++ [i]).length = pre.length + 1 := by rw [List.length_append, List.length_singleton]
              refine brn_f (fun z => by have := nI_inj (by omega) (by omega) z; omega) ⟨vin (by omega) (by decide), ?_⟩
              have go := ihr (pre ++ [i]) fl (mset (mset N1 14 pre.length (nI i)) 14 (pre.length + 1) (-1)) (by rw [hl1]; omega) (fun x hx => by
                rcases List.mem_append.mp hx with z | z
                · exact hp x z
                · rw [List.mem_singleton.mp z]; exact c) (by
                rw [List.nodup_append]
                exact ⟨nd, List.nodup_cons.mpr ⟨List.not_mem_nil, List.nodup_nil⟩, fun y hy z hz => by rw [List.mem_singleton.mp hz]; exact fun w => ci (by rw [← w]; exact hy)⟩) (by omega) ⟨km p1 (Or.inl rfl), fun e x hx => by
                have y := (List.getElem?_eq_some_iff.mp hx).1
                rw [hl1] at y
                rw [ms_j (by omega)]
                by_cases z : e < pre.length
                · rw [List.getElem?_append_left z] at hx; exact p2 e x hx
                · have : e = pre.length := by omega
                  subst this
                  rw [List.getElem?_append_right (Nat.le_refl _), Nat.sub_self] at hx
                  cases hx
                  exact ms_s _ _ _ _, fun l h0 j hj => by rw [ms_k (by decide)]; exact p3 l h0 j hj⟩ (by rw [hl1, ms_s])
              rw [hl1] at go
              refine go (fun N3 S3 => ?_)
              obtain ⟨R3, S31, S32⟩ := S3
              rw [show nI (pre.length + 1) + (-1) = nI pre.length from (Int32.sub_eq_add_neg _ _).symm.trans (by rw [show (1 : Int32) = nI 1 from rfl, pk_sub (by omega)]; exact congrArg nI (by omega))]
              have fle := List.length_filter_le (okO (xP s) (xE s)) (ext (pN (xP s)) r (pre ++ [i]))
              refine ih j' (by omega) (i + 1) _ N3 (by omega) (by rw [List.length_append]; omega) ⟨R3, fun e x hx => S31 e x (by rw [List.getElem?_append_left (List.getElem?_eq_some_iff.mp hx).1]; exact hx), S32⟩ ?_ kont
              rw [S31 pre.length i (by rw [List.getElem?_append_right (Nat.le_refl _), Nat.sub_self]; rfl)]
              exact nI_1 i
            · have : i = pN (xP s) := by omega
              subst this
              have sk := skip (m := pN (xP s)) (r := r) (pre := pre) j 0 k (fun i h1 h2 => hall i h1 (by omega))
              rw [Nat.add_zero] at sk
              rw [sk.1, show (exk (pN (xP s)) r pre 0 (k + j)).filter (okO (xP s) (xE s)) = [] from rfl, List.append_nil] at kont
              exact brn_t rfl (kont _ ⟨p1, p2, p3⟩)
          have lp : ∀ i, i ≤ pN (xP s) → k ≤ i → (∀ i', k ≤ i' → i' < i → i' ∈ pre) → R114 N1 (nI fl.length) (nI pre.length) w (nI i) := by
            refine up_loop (fun i hi ihi hki hall => ?_) (fun hki hall => ?_)
            · apply k114
              unfold B_MD_manyOrders_114
              rw [R1.1.1]
              refine br_f (nI_ge hi (by omega)) ?_
              obtain ⟨t, t1, t2, t3⟩ := bw
              have tb := t3 i (by omega)
              rw [t2]
              refine m_has (by omega) (by omega) (fun c => br_f (by decide) ?_) (fun c => br_t rfl (fin i (by omega) hki hall (fun _ z => c (tb.mpr z))))
              simp only [forall_eq, nI_1]
              rw [t2] at ihi
              exact ihi (by omega) (fun i' h1 h2 => by
                by_cases z : i' = i
                · rw [z]; exact tb.mp c
                · exact hall i' h1 (by omega))
            · apply k114
              unfold B_MD_manyOrders_114
              rw [R1.1.1]
              exact br_t (nI_le (Nat.le_refl _) (by omega)) (fin _ (Nat.le_refl _) hki hall (fun z => absurd z (Nat.lt_irrefl _)))
          exact lp k (by omega) (Nat.le_refl _) (fun i' h1 h2 => by omega)
      exact inner _ 0 fl N1 (Nat.zero_add _) hf S (by rw [e1]; decide) kont
  have pl := perms_len h7
  unfold B_MD_manyOrders_i
  simp only [forall_eq]
  refine ⟨vin (n := 0) (by decide) (by decide), ?_⟩
  refine tree (pN (xP s)) [] [] _ rfl (fun x hx => absurd hx List.not_mem_nil) List.nodup_nil (by show 0 + (perms (pN (xP s))).length < 1000000; omega) ⟨km R (Or.inl rfl), fun e x hx => (Option.some_ne_none x hx.symm).elim, fun l h0 => (Option.some_ne_none l h0.symm).elim⟩ (ms_s _ _ _ _) (fun N2 S2 => ?_)
  apply k11
  unfold B_MD_manyOrders_11
  exact br_t (show nI ([] : List Nat).length + (-1) < 0 by decide) (k N2 S2.1 S2.2.2)
theorem y_orders {p : Int32} {post : Int32 → Mem → Prop} (I : IX T s) (R : RM s N) (k : ∀ N', RM (fOrd s p).2 N' → post (fOrd s p).1 N') : P_MD_orders N p post := by
  have h7 := I.1.1
  have h1 := I.2.1
  have pl := perms_len h7
  have fl : (orL (xP s) (xE s)).length ≤ (perms (pN (xP s))).length := List.length_filter_le _ _
  unfold P_MD_orders B_MD_orders_i
  unfold fOrd at k
  rw [R.1.1, show nI (pN (xP s)) - 1 = nI (pN (xP s) - 1) from pk_sub (b := 1) h1]
  have c1 : (nI (pN (xP s) - 1)).toInt64.toInt = (pN (xP s) : Int) - 1 := by rw [Int32.toInt_toInt64, nI_toInt (by omega)]; omega
  have cm : ((-1 : Int64)).toInt = -1 := rfl
  refine m_in (fun x y => ?_) (fun x => ?_)
  · rw [Int32.toInt_toInt64, cm] at x
    rw [Int32.toInt_toInt64, c1] at y
    refine brn_f (by decide) (y_many I R (fun N1 R1 e15 => ?_))
    simp only [forall_eq]
    by_cases c : p = -1
    · rw [if_pos c] at k
      refine ⟨fun z => absurd z (by rw [c]; decide), fun _ => k N1 R1⟩
    · rw [if_neg c] at k
      have hp0 : 0 ≤ p.toInt := by
        rcases Int.lt_or_le p.toInt 0 with z | z
        · exact absurd (Int32.toInt_inj.mp (show p.toInt = (-1 : Int32).toInt by rw [show ((-1 : Int32)).toInt = -1 from rfl]; omega)) c
        · exact z
      obtain ⟨g, hg, rfl⟩ : ∃ g, g < pN (xP s) ∧ p = nI g := ⟨p.toInt.toNat, by omega, nI_ofInt (by omega) (by omega)⟩
      rw [gi_some hg (by omega)] at k
      simp only at k
      refine ⟨fun _ => ?_, fun z => absurd (nI_le (a := 0) (Nat.zero_le g) (by omega)) z⟩
      have k := k N1
      cases e : (orL (xP s) (xE s)).head? with
      | none =>
        rw [e] at k
        rw [List.head?_eq_none_iff.mp e]
        exact brn_t rfl (k R1)
      | some l =>
        rw [e] at k
        have : 0 < (orL (xP s) (xE s)).length := by
          cases ee : orL (xP s) (xE s) with
          | nil => rw [ee] at e; cases e
          | cons x0 l0 => exact Nat.succ_pos _
        refine brn_f (fun z => by have := nI_inj (b := 0) (by omega) (by decide) z; omega) ⟨vin (by omega) (by decide), ?_⟩
        rw [cl (by omega), e15 l e g hg]
        exact k R1
  · rw [Int32.toInt_toInt64, cm, c1] at x
    refine brn_t rfl ?_
    have c : ¬ p = -1 := fun z => by
      rw [z, show ((-1 : Int32)).toInt = -1 from rfl] at x
      omega
    rw [if_neg c, gi_none (by omega) (fun g hg e => by rw [e, nI_toInt (by omega)] at x; omega)] at k
    exact k N R
end
