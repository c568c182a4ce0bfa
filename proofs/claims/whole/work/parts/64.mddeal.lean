theorem fR_snoc (h : HT) : ∀ (A B : List Nat) (a b : Nat) (f : Nat → Nat), A.length = B.length → fR h (A ++ [a]) (B ++ [b]) f = va_up (fR h A B f) a (hR h b)
  | [], [], _, _, _, _ => rfl
  | [], _ :: _, _, _, _, e => by cases e
  | _ :: _, [], _, _, _, e => by cases e
  | x :: A, y :: B, a, b, f, e => fR_snoc h A B a b (va_up f x (hR h y)) (Nat.succ.inj e)
theorem dI_le {x y : Nat} (hx : x ≤ 100) (hy : y ≤ 100) : dI x ≤ dI y ↔ x ≤ y := by
  unfold dI
  by_cases c : x ≤ 99
  · rw [if_pos c]
    by_cases d : y ≤ 99
    · rw [if_pos d]
      exact ⟨fun z => Nat.not_lt.mp (fun w => nI_ge w (by omega) z), fun z => nI_le z (by omega)⟩
    · rw [if_neg d]
      exact ⟨fun _ => by omega, fun _ => nI_le (b := 1000000) (by omega) (by decide)⟩
  · rw [if_neg c]
    by_cases d : y ≤ 99
    · rw [if_pos d]
      exact ⟨fun z => absurd z (nI_ge (b := 1000000) (by omega) (by decide)), fun z => by omega⟩
    · rw [if_neg d]
      exact ⟨fun _ => by omega, fun _ => nI_le (a := 1000000) (b := 1000000) (Nat.le_refl _) (by decide)⟩
theorem dlS_ok (P : PT) (h : HT) : ∀ (A : List (List Nat)) (b : Nat × Option (List Nat)), (b.1 ≤ 100 ∧ (b.1 = 100 → b.2 = none) ∧ (b.2 = none → b.1 = 100)) → ((dlS P h A b).1 ≤ 100 ∧ ((dlS P h A b).1 = 100 → (dlS P h A b).2 = none) ∧ ((dlS P h A b).2 = none → (dlS P h A b).1 = 100))
  | [], _, e => e
  | q :: A, b, e => by
    refine dlS_ok P h A (if dn P (dlH P h q) < b.1 then (dn P (dlH P h q), some q) else b) ?_
    by_cases c : dn P (dlH P h q) < b.1
    · rw [if_pos c]
      exact ⟨by show dn P (dlH P h q) ≤ 100; omega, fun z => by have z : dn P (dlH P h q) = 100 := z; omega, fun z => by cases z⟩
    · rw [if_neg c]; exact e
theorem c67 (g : Nat) : 67 + nI g = nI (67 + g) := nI_add 67 g
section
variable {T : Nat} {s : ST} {N : Mem}
def SMd (s : ST) (pre : List Nat) (b : Nat × Option (List Nat)) (N : Mem) : Prop := RM s N ∧ (∀ e g : Nat, (bkd (xP s) (xH s))[e]? = some g → N 11 e = nI g) ∧ (∀ e x : Nat, pre[e]? = some x → N 12 e = nI x) ∧ ∀ q, b.2 = some q → ∀ g, g < pN (xP s) → hW (xH s) g = 0 → N 13 g = oI (ow (xP s) (xH s) b.2 g)
theorem y_best {post : Int32 → Mem → Prop} (I : IX T s) (R : RM s N) (k : ∀ N', RM s N' → (∀ q, (dlB (xP s) (xH s)).2 = some q → ∀ g, g < pN (xP s) → hW (xH s) g = 0 → N' 13 g = oI (dlO (xP s) (xH s) g)) → post (dI (dlT (xP s) (xH s))) N') : P_MD_bestDeal N post := by
  have pw := I.1
  have h7 := I.1.1
  have v := I.2.2.1.1
  have t20 := t20 I
  have m7 := bk7 pw (xH s)
  intro R4 R51 R61 R216 R99 R238 R164 k4 k51 k61 k216 k99 k238 k164
  -- busy
  have busy : ∀ (pre : List Nat) (N1 : Mem) (bst : Int32), (∀ x, x ∈ pre → x < (bkd (xP s) (xH s)).length) → pre.length ≤ 7 → (∀ e x : Nat, pre[e]? = some x → N1 12 e = nI x) → (∀ w, BT w pre → R61 N1 (nI (bkd (xP s) (xH s)).length) bst (nI pre.length) w (nI pre.length)) → ∀ (B A : List Nat) (w : Int32), pre = A ++ B → BT w A → R61 N1 (nI (bkd (xP s) (xH s)).length) bst (nI pre.length) w (nI A.length) := by
    intro pre N1 bst hp hl e12 fin B
    induction B with
    | nil =>
      intro A w e b
      rw [List.append_nil] at e
      subst e
      exact fin w b
    | cons x B ih =>
      intro A w e b
      have hA : A.length < pre.length := by rw [e, List.length_append, List.length_cons]; omega
      have gx : N1 12 A.length = nI x := e12 _ x (by rw [e, List.getElem?_append_right (Nat.le_refl _), Nat.sub_self]; rfl)
      have hx : x < (bkd (xP s) (xH s)).length := hp x (by rw [e]; exact List.mem_append_right _ (List.mem_cons_self ..))
      apply k61
      unfold B_MD_bestDeal_61
      refine br_f (nI_ge hA (by omega)) ⟨vin (by omega) (by decide), ?_⟩
      simp only [forall_eq, nI_1]
      rw [cl (by omega), gx]
      have := ih (A ++ [x]) _ (by rw [e, List.append_assoc]; rfl) (b.set (show x < 7 by omega))
      rw [List.length_append] at this
      exact this
  -- a whole way
  have leaf : ∀ (pre : List Nat) (b : Nat × Option (List Nat)) (N1 : Mem), pre.length = (bkd (xP s) (xH s)).length → (∀ x, x ∈ pre → x < (bkd (xP s) (xH s)).length) → b.1 ≤ 100 → SMd s pre b N1 → (∀ N', SMd s pre (dlS (xP s) (xH s) [pre] b) N' → R51 N' (nI (bkd (xP s) (xH s)).length) (dI (dlS (xP s) (xH s) [pre] b).1) (nI pre.length + (-1))) → R51 N1 (nI (bkd (xP s) (xH s)).length) (dI b.1) (nI pre.length) := by
    intro pre b N1 hl hp hb S kont
    obtain ⟨R1, e11, e12, e13⟩ := S
    apply k51
    unfold B_MD_bestDeal_51
    refine br_f (nI_pos (by omega)) ?_
    simp only [forall_eq]
    refine busy pre N1 _ hp (by omega) e12 (fun w bw => ?_) pre [] 0 rfl ⟨0, by decide, rfl, fun e he => ⟨fun z => absurd z (by rw [Nat.zero_div]; decide), fun z => absurd z List.not_mem_nil⟩⟩
    apply k61
    unfold B_MD_bestDeal_61
    refine br_t (nI_le (Nat.le_refl _) (by omega)) (brn_t (by rw [hl]) ?_)
    refine m_tries I R1 (fun N2 R2 H2 f2 eq2 => ?_)
    simp only [forall_eq]
    have eDH : dlH (xP s) (xH s) pre = sRR (xH s) (fR (xH s) (bkd (xP s) (xH s)) (pre.map (fun e => (bkd (xP s) (xH s)).getD e 0)) (hR (xH s))) := dlR_eq _ _ _ _
    have rooms : ∀ (A' Q' A Q : List Nat) (N3 : Mem), bkd (xP s) (xH s) = A ++ A' → pre = Q ++ Q' → A.length = Q.length → A'.length = Q'.length → RM s N3 → (∀ q, q ≠ 1 → N3 q = N1 q) → MR N3 51 (pN (xP s)) (sRR (xH s) (fR (xH s) A (Q.map (fun e => (bkd (xP s) (xH s)).getD e 0)) (hR (xH s)))) → R99 N3 (nI (bkd (xP s) (xH s)).length) (dI b.1) (nI pre.length) (nI A.length) := by
      intro A'
      induction A' with
      | nil =>
        intro Q' A Q N3 eA eQ el el' R3 q3 H3
        have : Q' = [] := List.eq_nil_of_length_eq_zero el'.symm
        subst this
        rw [List.append_nil] at eA eQ
        rw [← eA, ← eQ, ← eDH] at H3
        obtain ⟨fq, d1, d2⟩ := dlH_eq (xP s) (xH s) pre
        have vq : GV (xP s) (dlH (xP s) (xH s) pre) := by rw [d1]; exact gv_RR v ((d2 hl 0).le9 v (by decide) hp)
        have tq : hT (dlH (xP s) (xH s) pre) < 2 ^ 20 := by rw [d1]; exact t20
        apply k99
        unfold B_MD_bestDeal_99
        rw [← eA]
        refine br_t (nI_le (Nat.le_refl _) (by omega)) (m_doneBy R3.1 pw H3 vq tq (fun N4 f4 => ?_))
        have R4' := rm_fm I R3 f4
        have q4 : ∀ q, q ≠ 1 → N4 q = N1 q := fun q hq => (f4.1 q hq).trans (q3 q hq)
        have d100 : dn (xP s) (dlH (xP s) (xH s) pre) ≤ 100 := dnL_le _ 100 _
        have eS : dlS (xP s) (xH s) [pre] b = if dn (xP s) (dlH (xP s) (xH s) pre) < b.1 then (dn (xP s) (dlH (xP s) (xH s) pre), some pre) else b := rfl
        rw [eS] at kont
        simp only [forall_eq]
        by_cases c : dn (xP s) (dlH (xP s) (xH s) pre) < b.1
        · rw [if_pos c] at kont
          refine br_f (fun z => by have := (dI_le hb d100).mp z; omega) ?_
          have wr : ∀ i, i ≤ (bkd (xP s) (xH s)).length → ∀ N5, (∀ q, q ≠ 1 → q ≠ 13 → N5 q = N1 q) → RM s N5 → (∀ e, e < i → N5 13 (lo (xP s) (xH s) e) = nI (lo (xP s) (xH s) (pre.getD e 0))) → R164 N5 (nI (bkd (xP s) (xH s)).length) (dI (dn (xP s) (dlH (xP s) (xH s) pre))) (nI pre.length) (nI i) := by
            refine up_loop (fun i hi ih N5 q5 R5 w5 => ?_) (fun N5 q5 R5 w5 => ?_)
            · have hiq : i < pre.length := by omega
              have hxi : pre.getD i 0 < (bkd (xP s) (xH s)).length := hp _ (mem_getD hiq)
              obtain ⟨li1, li2, li3⟩ := lo_n hi
              obtain ⟨lq1, lq2, lq3⟩ := lo_n hxi
              have g12 : N5 12 i = nI (pre.getD i 0) := by
                rw [q5 12 (by decide) (by decide)]
                refine e12 i _ ?_
                rw [List.getD_eq_getElem?_getD, List.getElem?_eq_getElem hiq]; rfl
              have g11 : N5 11 i = nI (lo (xP s) (xH s) i) := by rw [q5 11 (by decide) (by decide)]; exact e11 i _ li3
              have g11q : N5 11 (pre.getD i 0) = nI (lo (xP s) (xH s) (pre.getD i 0)) := by rw [q5 11 (by decide) (by decide)]; exact e11 _ _ lq3
              apply k164
              unfold B_MD_bestDeal_164
              simp (disch := omega) only [cl, forall_eq, g11, g12, g11q, nI_1]
              refine br_f (nI_ge hi (by omega)) ⟨vin (by omega) (by decide), vin (by omega) (by decide), vin (by omega) (by decide), vin (by omega) (by decide), ih _ (fun q h1 h2 => by rw [mset_ne h2]; exact q5 q h1 h2) ?_ (fun e he => ?_)⟩
              · exact rm_km R5 h7 ⟨fun j _ => by rw [ms_k (by decide)], fun j _ => by rw [ms_k (by decide)], fun q h1 h2 => mset_ne (by omega)⟩ I.2.2.2.2.2.1 I.2.2.2.2.2.2.1
              · by_cases z : e = i
                · subst z; exact ms_s _ _ _ _
                · obtain ⟨le1, le2, le3⟩ := lo_n (P := xP s) (h := xH s) (e := e) (by omega)
                  rw [ms_j (fun y => z ?_)]
                  · exact w5 e (by omega)
                  · rw [y] at le3
                    rw [← idx_nd _ _ _ (bkd_nd _ _) le3, idx_nd _ _ _ (bkd_nd _ _) li3]
            · apply k164
              unfold B_MD_bestDeal_164
              refine br_t (nI_le (Nat.le_refl _) (by omega)) ?_
              simp only [forall_eq]
              refine kont N5 ⟨R5, by rw [q5 11 (by decide) (by decide)]; exact e11, by rw [q5 12 (by decide) (by decide)]; exact e12, fun q _ g hg hw => ?_⟩
              obtain ⟨e, he⟩ := List.getElem?_of_mem (bkd_mem.mpr ⟨hg, hw⟩)
              have hel := (List.getElem?_eq_some_iff.mp he).1
              have el3 : lo (xP s) (xH s) e = g := by
                have := (lo_n hel).2.2
                rw [he] at this
                exact (Option.some.inj this).symm
              show _ = oI (ow (xP s) (xH s) (some pre) g)
              unfold ow
              simp only
              rw [if_pos hw, idx_nd _ _ _ (bkd_nd _ _) he]
              have := w5 e hel
              rw [el3] at this
              exact this
          have := wr 0 (Nat.zero_le _) N4 (fun q h1 _ => q4 q h1) R4' (fun e he => absurd he (Nat.not_lt_zero _))
          rw [eA] at this
          rw [eA]
          exact this
        · rw [if_neg c] at kont
          refine br_t ((dI_le hb d100).mpr (by omega)) ?_
          exact kont N4 ⟨R4', by rw [q4 11 (by decide)]; exact e11, by rw [q4 12 (by decide)]; exact e12, by rw [q4 13 (by decide)]; exact e13⟩
      | cons a A' ih =>
        intro Q' A Q N3 eA eQ el el' R3 q3 H3
        cases Q' with
        | nil => cases el'
        | cons x Q' =>
          have hA : A.length < (bkd (xP s) (xH s)).length := by rw [eA, List.length_append, List.length_cons]; omega
          have ga : (bkd (xP s) (xH s))[A.length]? = some a := by rw [eA, List.getElem?_append_right (Nat.le_refl _), Nat.sub_self]; rfl
          have gx : pre[A.length]? = some x := by rw [eQ, el, List.getElem?_append_right (Nat.le_refl _), Nat.sub_self]; rfl
          have hx := hp x (List.mem_of_getElem? gx)
          have han := bkd_mem.mp (List.mem_of_getElem? ga)
          obtain ⟨lx1, lx2, lx3⟩ := lo_n hx
          have g12 : N3 12 A.length = nI x := by rw [q3 12 (by decide)]; exact e12 _ x gx
          have g11 : N3 11 A.length = nI a := by rw [q3 11 (by decide)]; exact e11 _ a ga
          have g11x : N3 11 x = nI (lo (xP s) (xH s) x) := by rw [q3 11 (by decide)]; exact e11 _ _ lx3
          have gr : N3 1 (16 + lo (xP s) (xH s) x) = nI (hR (xH s) (lo (xP s) (xH s) x)) := by rw [← Nat.zero_add 16]; exact (R3.2.1.2.2 _ lx1).2.2.1
          apply k99
          unfold B_MD_bestDeal_99
          simp (disch := omega) only [cl, forall_eq, g11, g12, g11x, nI_1, c16, c67, gr]
          refine br_f (nI_ge hA (by omega)) ⟨vin (by omega) (by decide), vin (by omega) (by decide), vin (by omega) (by decide), vin (by omega) (by decide), vin (by omega) (by decide), ?_⟩
          have F5 : FM 51 N3 (mset N3 1 (67 + a) (nI (hR (xH s) (lo (xP s) (xH s) x)))) := FM.rf.set (by omega) (by omega)
          have := ih Q' (A ++ [a]) (Q ++ [x]) _ (by rw [eA, List.append_assoc]; rfl) (by rw [eQ, List.append_assoc]; rfl) (by rw [List.length_append, List.length_append, el]; rfl) (Nat.succ.inj el') (rm_fm I R3 F5) (fun q hq => by rw [mset_ne hq]; exact q3 q hq) (by
            rw [List.map_append, List.map_cons, List.map_nil, fR_snoc _ _ _ _ _ _ (by rw [List.length_map]; exact el)]
            exact MR.sR (g := a) (x := hR (xH s) (lo (xP s) (xH s) x)) H3 h7 han.1)
          rw [List.length_append] at this
          exact this
    exact rooms (bkd (xP s) (xH s)) pre [] [] N2 rfl rfl rfl hl.symm R2 eq2 H2
  -- the tree
  have tree : ∀ (r : Nat) (pre : List Nat) (b : Nat × Option (List Nat)) (N1 : Mem), r + pre.length = (bkd (xP s) (xH s)).length → (∀ x, x ∈ pre → x < (bkd (xP s) (xH s)).length) → b.1 ≤ 100 → SMd s pre b N1 → N1 12 pre.length = -1 → (∀ N', SMd s pre (dlS (xP s) (xH s) (ext (bkd (xP s) (xH s)).length r pre) b) N' → R51 N' (nI (bkd (xP s) (xH s)).length) (dI (dlS (xP s) (xH s) (ext (bkd (xP s) (xH s)).length r pre) b).1) (nI pre.length + (-1))) → R51 N1 (nI (bkd (xP s) (xH s)).length) (dI b.1) (nI pre.length) := by
    intro r
    induction r with
    | zero => exact fun pre b N1 hl hp hb S _ kont => leaf pre b N1 (by omega) hp hb S kont
    | succ r ihr =>
      intro pre b N1 hl hp hb S e1 kont
      rw [ext_exk] at kont
      have inner : ∀ j k b N1, k + j = (bkd (xP s) (xH s)).length → b.1 ≤ 100 → SMd s pre b N1 → N1 12 pre.length + 1 = nI k → (∀ N', SMd s pre (dlS (xP s) (xH s) (exk (bkd (xP s) (xH s)).length r pre j k) b) N' → R51 N' (nI (bkd (xP s) (xH s)).length) (dI (dlS (xP s) (xH s) (exk (bkd (xP s) (xH s)).length r pre j k) b).1) (nI pre.length + (-1))) → R51 N1 (nI (bkd (xP s) (xH s)).length) (dI b.1) (nI pre.length) := by
        intro j
        induction j using Nat.strongRecOn with
        | _ j ih =>
          intro k b N1 hk hb S ek kont
          obtain ⟨R1, e11, e12, e13⟩ := S
          apply k51
          unfold B_MD_bestDeal_51
          refine br_f (nI_pos (by omega)) ?_
          simp only [forall_eq]
          refine busy pre N1 _ hp (by omega) e12 (fun w bw => ?_) pre [] 0 rfl ⟨0, by decide, rfl, fun e he => ⟨fun z => absurd z (by rw [Nat.zero_div]; decide), fun z => absurd z List.not_mem_nil⟩⟩
          apply k61
          unfold B_MD_bestDeal_61
          refine br_t (nI_le (Nat.le_refl _) (by omega)) (brn_f (fun z => by have := nI_inj (by omega) (by omega) z; omega) ⟨vin (by omega) (by decide), ?_⟩)
          simp only [forall_eq]
          rw [cl (by omega), ek]
          have put : ∀ i, N1 = N1 → RM s (mset N1 12 pre.length i) ∧ (∀ e g : Nat, (bkd (xP s) (xH s))[e]? = some g → mset N1 12 pre.length i 11 e = nI g) ∧ (∀ e x : Nat, pre[e]? = some x → mset N1 12 pre.length i 12 e = nI x) ∧ (∀ q, b.2 = some q → ∀ g, g < pN (xP s) → hW (xH s) g = 0 → mset N1 12 pre.length i 13 g = oI (ow (xP s) (xH s) b.2 g)) := fun i _ => by
            refine ⟨rm_km R1 h7 ⟨fun j _ => by rw [ms_k (by decide)], fun j _ => by rw [ms_k (by decide)], fun q h1 h2 => mset_ne (by omega)⟩ I.2.2.2.2.2.1 I.2.2.2.2.2.2.1, fun e g he => by rw [ms_k (by decide)]; exact e11 e g he, fun e x hx => ?_, fun q hq g hg hw => by rw [ms_k (by decide)]; exact e13 q hq g hg hw⟩
            have := (List.getElem?_eq_some_iff.mp hx).1
            rw [ms_j (by omega)]; exact e12 e x hx
          have lp : ∀ i, i ≤ (bkd (xP s) (xH s)).length → k ≤ i → (∀ i', k ≤ i' → i' < i → i' ∈ pre) → R216 N1 (nI (bkd (xP s) (xH s)).length) (dI b.1) (nI pre.length) w (nI i) := by
            have fin : ∀ i, i ≤ (bkd (xP s) (xH s)).length → k ≤ i → (∀ i', k ≤ i' → i' < i → i' ∈ pre) → (i < (bkd (xP s) (xH s)).length → i ∉ pre) → R238 N1 (nI (bkd (xP s) (xH s)).length) (dI b.1) (nI pre.length) (nI i) := by
              intro i hi hki hall hno
              obtain ⟨p1, p2, p3, p4⟩ := put (nI i) rfl
              apply k238
              unfold B_MD_bestDeal_238
              simp (disch := omega) only [cl, forall_eq, nI_1]
              refine ⟨vin (by omega) (by decide), ?_⟩
              by_cases c : i < (bkd (xP s) (xH s)).length
              · have ci := hno c
                obtain ⟨j', ej⟩ : ∃ j', j = (i - k) + (j' + 1) := ⟨(bkd (xP s) (xH s)).length - i - 1, by omega⟩
                have sk := skip (m := (bkd (xP s) (xH s)).length) (r := r) (pre := pre) (i - k) (j' + 1) k (fun i' h1 h2 => hall i' h1 (by omega))
                rw [← ej, show k + (i - k) = i by omega] at sk
                have sk1 : exk (bkd (xP s) (xH s)).length r pre j k = ext (bkd (xP s) (xH s)).length r (pre ++ [i]) ++ exk (bkd (xP s) (xH s)).length r pre j' (i + 1) := by
                  rw [sk.1]
                  show (if i ∈ pre then [] else ext (bkd (xP s) (xH s)).length r (pre ++ [i])) ++ _ = _
                  rw [if_neg ci]
                rw [sk1, dlS_app] at kont
                have hl1 : (pre ++ [i]).length = pre.length + 1 := by rw [List.length_append, List.length_singleton]
                refine brn_f (fun z => by have := nI_inj (by omega) (by omega) z; omega) ⟨vin (by omega) (by decide), ?_⟩
                have go := ihr (pre ++ [i]) b (mset (mset N1 12 pre.length (nI i)) 12 (pre.length + 1) (-1)) (by rw [hl1]; omega) (fun x hx => by
                  rcases List.mem_append.mp hx with z | z
                  · exact hp x z
                  · rw [List.mem_singleton.mp z]; exact c) hb ⟨rm_km p1 h7 ⟨fun j _ => by rw [ms_k (by decide)], fun j _ => by rw [ms_k (by decide)], fun q h1 h2 => mset_ne (by omega)⟩ I.2.2.2.2.2.1 I.2.2.2.2.2.2.1, fun e g he => by rw [ms_k (by decide)]; exact p2 e g he, fun e x hx => by
                  have y := (List.getElem?_eq_some_iff.mp hx).1
                  rw [hl1] at y
                  rw [ms_j (by omega)]
                  by_cases z : e < pre.length
                  · rw [List.getElem?_append_left z] at hx; exact p3 e x hx
                  · have : e = pre.length := by omega
                    subst this
                    rw [List.getElem?_append_right (Nat.le_refl _), Nat.sub_self] at hx
                    cases hx
                    exact ms_s _ _ _ _, fun q hq g hg hw => by rw [ms_k (by decide)]; exact p4 q hq g hg hw⟩ (by rw [hl1, ms_s])
                rw [hl1] at go
                refine go (fun N3 S3 => ?_)
                obtain ⟨R3, S31, S32, S33⟩ := S3
                rw [show nI (pre.length + 1) + (-1) = nI pre.length from (Int32.sub_eq_add_neg _ _).symm.trans (by rw [show (1 : Int32) = nI 1 from rfl, pk_sub (by omega)]; exact congrArg nI (by omega))]
                refine ih j' (by omega) (i + 1) _ N3 (by omega) (Nat.le_trans (dlS_le _ _ _ b) hb) ⟨R3, S31, fun e x hx => S32 e x (by rw [List.getElem?_append_left (List.getElem?_eq_some_iff.mp hx).1]; exact hx), S33⟩ ?_ kont
                rw [S32 pre.length i (by rw [List.getElem?_append_right (Nat.le_refl _), Nat.sub_self]; rfl)]
                exact nI_1 i
              · have : i = (bkd (xP s) (xH s)).length := by omega
                subst this
                have sk := skip (m := (bkd (xP s) (xH s)).length) (r := r) (pre := pre) j 0 k (fun i h1 h2 => hall i h1 (by omega))
                rw [Nat.add_zero] at sk
                rw [sk.1] at kont
                exact brn_t rfl (kont _ ⟨p1, p2, p3, p4⟩)
            refine up_loop (fun i hi ihi hki hall => ?_) (fun hki hall => ?_)
            · apply k216
              unfold B_MD_bestDeal_216
              refine br_f (nI_ge hi (by omega)) ?_
              obtain ⟨t, t1, t2, t3⟩ := bw
              have tb := t3 i (by omega)
              rw [t2]
              refine m_has (by omega) (by omega) (fun c => br_f (by decide) ?_) (fun c => br_t rfl (fin i (by omega) hki hall (fun _ z => c (tb.mpr z))))
              simp only [forall_eq, nI_1]
              rw [t2] at ihi
              exact ihi (by omega) (fun i' h1 h2 => by
                by_cases z : i' = i
                · rw [z]; exact tb.mp c
                · exact hall i' h1 (by omega))
            · apply k216
              unfold B_MD_bestDeal_216
              exact br_t (nI_le (Nat.le_refl _) (by omega)) (fin _ (Nat.le_refl _) hki hall (fun z => absurd z (Nat.lt_irrefl _)))
          exact lp k (by omega) (Nat.le_refl _) (fun i' h1 h2 => by omega)
      exact inner _ 0 b N1 (Nat.zero_add _) hb S (by rw [e1]; decide) kont
  -- who is booked
  have L : ∀ i, i ≤ pN (xP s) → ∀ N1, RM s N1 → (∀ e g : Nat, (bkI (xH s) i)[e]? = some g → N1 11 e = nI g) → (bkI (xH s) i).length ≤ i → R4 N1 (nI (bkI (xH s) i).length) (nI i) := by
    refine up_loop (fun i hi ih N1 R1 e11 bl => ?_) (fun N1 R1 e11 bl => ?_)
    · apply k4
      unfold B_MD_bestDeal_4
      have ew : N1 1 (2 + i) = nI (hW (xH s) i) := by rw [← Nat.zero_add 2]; exact (R1.2.1.2.2 i hi).1
      have w3 := (v.2 i hi).1
      have bs := bkI_s (xH s) i
      rw [R1.1.1, c2]
      simp (disch := omega) only [cl, forall_eq, nI_1, ew]
      refine br_f (nI_ge hi (by omega)) ⟨vin (by omega) (by decide), ?_⟩
      by_cases c : hW (xH s) i = 0
      · rw [if_pos c] at bs
        rw [bs, List.length_append] at ih
        refine brn_t (by rw [c]; rfl) ⟨vin (by omega) (by decide), ih _ (rm_km R1 h7 ⟨fun j _ => by rw [ms_k (by decide)], fun j _ => by rw [ms_k (by decide)], fun q h1 h2 => mset_ne (by omega)⟩ I.2.2.2.2.2.1 I.2.2.2.2.2.2.1) (fun e g he => ?_) (by show (bkI (xH s) i).length + 1 ≤ i + 1; omega)⟩
        by_cases z : e < (bkI (xH s) i).length
        · rw [List.getElem?_append_left z] at he
          rw [ms_j (by omega)]; exact e11 e g he
        · have y := (List.getElem?_eq_some_iff.mp he).1
          rw [List.length_append, List.length_singleton] at y
          have : e = (bkI (xH s) i).length := by omega
          subst this
          rw [List.getElem?_append_right (Nat.le_refl _), Nat.sub_self] at he
          cases he
          exact ms_s _ _ _ _
      · rw [if_neg c] at bs
        rw [bs] at ih
        exact brn_f (fun z => c (nI_inj (b := 0) (by omega) (by decide) z)) (ih N1 R1 e11 (by omega))
    · apply k4
      unfold B_MD_bestDeal_4
      rw [R1.1.1]
      refine br_t (nI_le (Nat.le_refl _) (by omega)) ?_
      simp only [forall_eq]
      refine ⟨vin (n := 0) (by decide) (by decide), ?_⟩
      refine tree (bkd (xP s) (xH s)).length [] (100, none) _ rfl (fun x hx => absurd hx List.not_mem_nil) (Nat.le_refl _) ⟨rm_km R1 h7 ⟨fun j _ => by rw [ms_k (by decide)], fun j _ => by rw [ms_k (by decide)], fun q h1 h2 => mset_ne (by omega)⟩ I.2.2.2.2.2.1 I.2.2.2.2.2.2.1, fun e g he => by rw [ms_k (by decide)]; exact e11 e g he, fun e x hx => (Option.some_ne_none x hx.symm).elim, fun q hq => (Option.some_ne_none q hq.symm).elim⟩ (ms_s _ _ _ _) (fun N2 S2 => ?_)
      apply k51
      unfold B_MD_bestDeal_51
      exact br_t (show nI ([] : List Nat).length + (-1) < 0 by decide) (k N2 S2.1 S2.2.2.2)
  unfold B_MD_bestDeal_i
  simp only [forall_eq]
  exact L 0 (Nat.zero_le _) N R (fun e g he => (Option.some_ne_none g he.symm).elim) (Nat.le_refl _)
theorem y_deal {p : Int32} {post : Int32 → Mem → Prop} (I : IX T s) (R : RM s N) (k : ∀ N', RM (fDeal s p).2 N' → post (fDeal s p).1 N') : P_MD_deal N p post := by
  have h7 := I.1.1
  have v := I.2.2.1.1
  intro R15 k15
  unfold B_MD_deal_i
  unfold fDeal at k
  obtain ⟨b1', b2', b3'⟩ := dlS_ok (xP s) (xH s) (perms (bkd (xP s) (xH s)).length) (100, none) ⟨Nat.le_refl _, fun _ => rfl, fun _ => rfl⟩
  have b1' : dlT (xP s) (xH s) ≤ 100 := b1'
  have b2' : dlT (xP s) (xH s) = 100 → (dlB (xP s) (xH s)).2 = none := b2'
  have b3' : (dlB (xP s) (xH s)).2 = none → dlT (xP s) (xH s) = 100 := b3'
  by_cases c : p = -1
  · rw [if_pos c] at k
    refine ⟨fun _ => ?_, fun z => absurd c z⟩
    apply k15
    unfold B_MD_deal_15
    refine y_best I R (fun N1 R1 e13 => ?_)
    simp only [forall_eq]
    have := k N1 R1
    unfold wh at this
    unfold dI
    by_cases z : dlT (xP s) (xH s) ≤ 99
    · rw [if_pos z] at this ⊢
      exact brn_f (fun y => absurd (nI_inj (b := 1000000) (by omega) (by decide) y) (by omega)) ⟨fun y => absurd c y, fun _ => this⟩
    · rw [if_neg z] at this ⊢
      exact brn_t rfl this
  · rw [if_neg c] at k
    refine ⟨fun z => absurd z c, fun _ => m_guest R.1.1 h7 (fun g hg e => brn_f (by decide) ?_) (fun q => brn_t rfl ?_)⟩
    · subst e
      rw [gi_some hg (by omega)] at k
      simp only at k
      apply k15
      unfold B_MD_deal_15
      refine y_best I R (fun N1 R1 e13 => ?_)
      simp (disch := omega) only [forall_eq, c2, cl]
      have k := k N1 R1
      have ew : N1 1 (2 + g) = nI (hW (xH s) g) := by rw [← Nat.zero_add 2]; exact (R1.2.1.2.2 g hg).1
      have w3 := (v.2 g hg).1
      rw [ew]
      cases e2 : (dlB (xP s) (xH s)).2 with
      | none =>
        have eo : dlO (xP s) (xH s) g = none := by
          show ow (xP s) (xH s) (dlB (xP s) (xH s)).2 g = none
          rw [e2]; rfl
        rw [eo] at k
        unfold dI
        rw [b3' e2, if_neg (by decide)]
        exact brn_t rfl k
      | some q =>
        have t99 : dlT (xP s) (xH s) ≤ 99 := Nat.not_lt.mp (fun z => by
          have := b2' (by omega)
          rw [e2] at this; cases this)
        unfold dI
        rw [if_pos t99]
        refine brn_f (fun y => absurd (nI_inj (b := 1000000) (by omega) (by decide) y) (by omega)) ⟨fun _ => ⟨vin (by omega) (by decide), ?_⟩, fun z => absurd z c⟩
        by_cases w : hW (xH s) g = 0
        · refine brn_t (by rw [w]; rfl) ⟨vin (by omega) (by decide), ?_⟩
          rw [e13 q e2 g hg w]
          exact k
        · have eo : dlO (xP s) (xH s) g = none := ow_nb (b := (dlB (xP s) (xH s)).2) w
          rw [eo] at k
          exact brn_f (fun z => w (nI_inj (b := 0) (by omega) (by decide) z)) k
    · rw [gi_none (by omega) q] at k
      exact k N R
end
