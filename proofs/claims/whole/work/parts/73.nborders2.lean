def fOrd (s : ST) (p : Int32) : Int32 × ST := if p = -1 then (nI (orL (xP s) (xE s)).length, s) else match gi (pN (xP s)) p with
  | none => (-1, s)
  | some k => match (orL (xP s) (xE s)).head? with
    | none => (-4, s)
    | some l => (nI (l.getD k 0), s)
/-- what is noted of the orders that fit -/
def FN (n : Nat) (M : Mem) (fl : List (List Nat)) : Prop := M 142 7 = nI fl.length ∧ ∀ l, fl.head? = some l → ∀ k, k < n → M 146 k = nI (l.getD k 0)
section
variable {M : Mem} {P : PT} {n : Nat}
theorem s_note {l : List Nat} {fl : List (List Nat)} {post : Mem → Prop} (hn : M 4 6 = nI n) (h7 : n ≤ 7) (o : OM M l) (hl : l.length = n) (F : FN n M fl) (hf : fl.length < 2 ^ 30) (k : ∀ M', FN n M' (fl ++ [l]) → (∀ q, q ≠ 142 → q ≠ 146 → M' q = M q) → (∀ i, i ≠ 7 → M' 142 i = M 142 i) → post M') : P_Sightings_noteOrder M post := by
  intro R9 k9
  unfold B_Sightings_noteOrder_i
  have e1 : nI fl.length + 1 = nI (fl ++ [l]).length := by rw [nI_1, List.length_append]; rfl
  rw [F.1, e1]
  cases hfl : fl with
  | nil =>
    subst hfl
    refine brn_t rfl ?_
    simp only [forall_eq]
    have L : ∀ i, i ≤ n → ∀ M1, (∀ j, j < i → M1 146 j = nI (l.getD j 0)) → (∀ q, q ≠ 146 → M1 q = M q) → R9 M1 (nI i) := by
      refine up_loop (fun i hi ih M1 w f => ?_) (fun M1 w f => ?_)
      · apply k9
        unfold B_Sightings_noteOrder_9
        rw [f 4 (by decide), hn]
        simp (disch := omega) only [cl, forall_eq, nI_1]
        rw [f 145 (by decide), o.at (show i < l.length by omega)]
        refine br7_f hi h7 ⟨vin (by omega) (by decide), vin (by omega) (by decide), ih _ (fun j hj => ?_) (fun q hq => by rw [mset_ne hq]; exact f q hq)⟩
        by_cases c : j = i
        · subst c; exact ms_s _ _ _ _
        · rw [ms_j c]; exact w j (by omega)
      · apply k9
        unfold B_Sightings_noteOrder_9
        rw [f 4 (by decide), hn]
        refine br7_e h7 ?_
        simp only [forall_eq]
        rw [f 142 (by decide), F.1, e1]
        refine k _ ⟨ms_s _ _ _ _, fun l0 h0 j hj => ?_⟩ (fun q h1 h2 => by rw [mset_ne h1]; exact f q h2) (fun i hi => by rw [ms_j hi, f 142 (by decide)])
        cases h0
        rw [ms_k (by decide)]; exact w j hj
    exact L 0 (Nat.zero_le _) M (fun j hj => absurd hj (Nat.not_lt_zero _)) (fun _ _ => rfl)
  | cons l1 fl' =>
    rw [← hfl]
    refine brn_f (fun z => ?_) ?_
    · have := nI_inj (b := 0) (by omega) (by decide) z
      rw [hfl] at this; cases this
    · simp only [forall_eq]
      refine k _ ⟨ms_s _ _ _ _, fun l0 h0 j hj => ?_⟩ (fun q h1 h2 => mset_ne h1) (fun i hi => ms_j hi)
      rw [ms_k (by decide)]
      refine F.2 l0 ?_ j hj
      rw [hfl] at h0 ⊢
      exact h0
end
section
variable {T : Nat} {s : ST} {M : Mem}
theorem rx_ord {M' : Mem} (R : RX s M) (f : ∀ q, q ≠ 142 → q ≠ 145 → q ≠ 146 → q ≠ 147 → M' q = M q) (e8 : ∀ i, i ≠ 7 → i ≠ 8 → M' 142 i = M 142 i) (d : SOK (xP s) (xE s) M') : RX s M' := by
  obtain ⟨R1, R2, R3, R4, R5, R7, R8, R9⟩ := R
  have e : ∀ q, q < 142 → M' q = M q := fun q hq => f q (by omega) (by omega) (by omega) (by omega)
  refine ⟨R1.of (fun q _ _ => e q (by omega)), R2.of (fun q _ _ => e q (by omega)), R3.of (fun q _ _ => e q (by omega)), R4.of (fun q _ _ => e q (by omega)), ?_, ?_, ?_, d⟩
  · unfold TX; rw [e 1 (by omega), e 2 (by omega)]; exact R5
  · unfold SN; rw [e8 6 (by decide) (by decide), f 143 (by decide) (by decide) (by decide) (by decide), f 144 (by decide) (by decide) (by decide) (by decide)]; exact R7
  · unfold DOK; rw [e 124 (by omega), e 127 (by omega)]; exact R8
def WW (M M1 : Mem) : Prop := (∀ q, q ≠ 142 → q ≠ 145 → q ≠ 146 → q ≠ 147 → M1 q = M q) ∧ (∀ i, i ≠ 7 → i ≠ 8 → M1 142 i = M 142 i) ∧ M1 142 8 = 0
theorem s_srefresh {post : Mem → Prop} (I : IX T s) (R : RX s M) (k : ∀ M', RX s M' → FN (pN (xP s)) M' (orL (xP s) (xE s)) → post M') : P_Sightings_refresh M post := by
  have pw := I.1
  have h7 := I.1.1
  have h1 := I.2.1
  have he : (xE s).length ≤ 7 := I.2.2.2.2.2.2.2.2.2.1
  have hq : ∀ q, q ∈ xE s → q.1 < pN (xP s) ∧ q.2 ≤ 200 := I.2.2.2.2.2.2.2.2.2.2.1
  intro R20 R54 k20 k54
  unfold B_Sightings_refresh_i
  rcases R.2.2.2.2.2.2.2 with d | ⟨d0, d1, d2⟩
  · rw [d]
    refine brn_f (by decide) ?_
    simp only [forall_eq]
    obtain ⟨ck, hd⟩ := chk_perms h7
    have pl := perms_len h7
    have RW : ∀ M1, WW M M1 → PR M1 4 (xP s) ∧ SN M1 (xE s) := fun M1 w => by
      refine ⟨R.1.of (fun q _ _ => w.1 q (by omega) (by omega) (by omega) (by omega)), ?_⟩
      unfold SN
      rw [w.2.1 6 (by decide) (by decide), w.1 143 (by decide) (by decide) (by decide) (by decide), w.1 144 (by decide) (by decide) (by decide) (by decide)]
      exact R.2.2.2.2.2.1
    have one : ∀ (A : List (List Nat)) (l : List Nat) M1, l ∈ perms (pN (xP s)) → OM M1 l → FN (pN (xP s)) M1 (A.filter (okO (xP s) (xE s))) → WW M M1 → A.length < 1000000 → (∀ M3, WW M M3 → FN (pN (xP s)) M3 ((A ++ [l]).filter (okO (xP s) (xE s))) → OM M3 l → P_Sightings_nextOrder M3 (fun r M4 => R54 M4 r (nI (A.length + 1)))) → R54 M1 1 (nI A.length) := by
      intro A l M1 hl o F w hA nx
      obtain ⟨l1, l2⟩ := perms_mem hl
      obtain ⟨P1, S1⟩ := RW M1 w
      have fle := List.length_filter_le (okO (xP s) (xE s)) A
      apply k54
      unfold B_Sightings_refresh_54
      refine br_f (nI_ge (b := 1000000) hA (by decide)) (br_f (by decide) ?_)
      simp only [forall_eq, nI_1]
      refine s_come P1 pw o l1 l2 (fun M2 co F2 => ?_)
      have w2 : WW M M2 := ⟨fun q a1 a2 a3 a4 => (F2 q a4).trans (w.1 q a1 a2 a3 a4), fun i a1 a2 => by rw [F2 142 (by decide)]; exact w.2.1 i a1 a2, by rw [F2 142 (by decide)]; exact w.2.2⟩
      obtain ⟨P2, S2⟩ := RW M2 w2
      have o2 : OM M2 l := by unfold OM; rw [F2 145 (by decide)]; exact o
      have FN2 : FN (pN (xP s)) M2 (A.filter (okO (xP s) (xE s))) := by unfold FN; rw [F2 142 (by decide), F2 146 (by decide)]; exact F
      refine s_asSeen (l := l) P2 pw S2 he hq co ?_
      cases ok : okO (xP s) (xE s) l with
      | false =>
        refine br_t rfl (nx M2 w2 ?_ o2)
        rw [List.filter_append, List.filter_cons_of_neg (by rw [ok]; decide), List.filter_nil, List.append_nil]; exact FN2
      | true =>
        refine br_f (by decide) (s_note P2.1 h7 o2 l1 FN2 (by omega) (fun M3 F3 f3 g3 => nx M3 ⟨fun q a1 a2 a3 a4 => (f3 q a1 a3).trans (w2.1 q a1 a2 a3 a4), fun i a1 a2 => (g3 i a1).trans (w2.2.1 i a1 a2), (g3 8 (by decide)).trans w2.2.2⟩ ?_ ?_))
        · rw [List.filter_append, List.filter_cons_of_pos ok, List.filter_nil]; exact F3
        · unfold OM; rw [f3 145 (by decide) (by decide)]; exact o2
    have L : ∀ (r A : List (List Nat)) (l : List Nat) M1, perms (pN (xP s)) = A ++ (l :: r) → chkE (pN (xP s)) none (l :: r) = true → OM M1 l → FN (pN (xP s)) M1 (A.filter (okO (xP s) (xE s))) → WW M M1 → R54 M1 1 (nI A.length) := by
      intro r
      induction r with
      | nil =>
        intro A l M1 eA ec o F w
        have hl : l ∈ perms (pN (xP s)) := by rw [eA]; exact List.mem_append_right _ (List.mem_cons_self ..)
        have hlen : A.length < 1000000 := by rw [eA, List.length_append] at pl; omega
        obtain ⟨l1, l2⟩ := perms_mem hl
        refine one A l M1 hl o F w hlen (fun M3 w3 F3 o3 => ?_)
        have ec : (decide (npx (pN (xP s)) l = none) && true) = true := ec
        rw [Bool.and_true, decide_eq_true_iff] at ec
        refine s_next (RW M3 w3).1.1 h7 h1 l1 l2 o3 (fun _ => ?_) (fun l' e => by rw [ec] at e; cases e)
        rw [← eA] at F3
        have fin := k M3 (rx_ord R w3.1 w3.2.1 (Or.inr ⟨w3.2.2, F3⟩)) F3
        apply k54
        unfold B_Sightings_refresh_54
        exact ⟨fun _ => fin, fun _ => ⟨fun _ => fin, fun z => absurd rfl z⟩⟩
      | cons l' r ih =>
        intro A l M1 eA ec o F w
        have hl : l ∈ perms (pN (xP s)) := by rw [eA]; exact List.mem_append_right _ (List.mem_cons_self ..)
        have hlen : A.length < 1000000 := by rw [eA, List.length_append] at pl; omega
        obtain ⟨l1, l2⟩ := perms_mem hl
        refine one A l M1 hl o F w hlen (fun M3 w3 F3 o3 => ?_)
        have ec : (decide (npx (pN (xP s)) l = some l') && chkE (pN (xP s)) none (l' :: r)) = true := ec
        rw [Bool.and_eq_true, decide_eq_true_iff] at ec
        refine s_next (RW M3 w3).1.1 h7 h1 l1 l2 o3 (fun e => by rw [ec.1] at e; cases e) (fun l'' e M4 o4 F4 => ?_)
        rw [ec.1] at e
        cases e
        have := ih (A ++ [l]) l' M4 (by rw [eA, List.append_assoc]; rfl) ec.2 o4 (by unfold FN; rw [F4 142 (by decide), F4 146 (by decide)]; exact F3) ⟨fun q a1 a2 a3 a4 => (F4 q a2).trans (w3.1 q a1 a2 a3 a4), fun i a1 a2 => by rw [F4 142 (by decide)]; exact w3.2.1 i a1 a2, by rw [F4 142 (by decide)]; exact w3.2.2⟩
        rw [List.length_append] at this
        exact this
    have L0 : ∀ i, i ≤ pN (xP s) → ∀ M1, (∀ j, j < i → M1 145 j = nI j) → WW M M1 → M1 142 7 = 0 → R20 M1 (nI i) := by
      refine up_loop (fun i hi ih M1 w0 w z => ?_) (fun M1 w0 w z => ?_)
      · apply k20
        unfold B_Sightings_refresh_20
        rw [(RW M1 w).1.1]
        simp (disch := omega) only [cl, forall_eq, nI_1]
        refine br7_f hi h7 ⟨vin (by omega) (by decide), ih _ (fun j hj => ?_) ⟨fun q a1 a2 a3 a4 => by rw [mset_ne a2]; exact w.1 q a1 a2 a3 a4, fun i a1 a2 => by rw [ms_k (by decide)]; exact w.2.1 i a1 a2, by rw [ms_k (by decide)]; exact w.2.2⟩ (by rw [ms_k (by decide)]; exact z)⟩
        by_cases c : j = i
        · subst c; exact ms_s _ _ _ _
        · rw [ms_j c]; exact w0 j (by omega)
      · apply k20
        unfold B_Sightings_refresh_20
        rw [(RW M1 w).1.1]
        refine br7_e h7 ?_
        simp only [forall_eq]
        cases ep : perms (pN (xP s)) with
        | nil => rw [ep] at hd; cases hd
        | cons l r =>
          rw [ep] at hd ck
          cases hd
          refine L r [] (List.range (pN (xP s))) M1 ep ck (fun e x hx => ?_) ⟨z, fun l0 h0 => (Option.some_ne_none l0 h0.symm).elim⟩ w
          have hel := (List.getElem?_eq_some_iff.mp hx).1
          rw [List.length_range] at hel
          rw [List.getElem?_range hel] at hx
          cases hx
          exact w0 e hel
    refine L0 0 (Nat.zero_le _) _ (fun j hj => absurd hj (Nat.not_lt_zero _)) ⟨fun q a1 _ _ _ => by rw [mset_ne a1, mset_ne a1], fun i a1 a2 => by rw [ms_j a1, ms_j a2], by rw [ms_j (by decide), ms_s]⟩ (ms_s _ _ _ _)
  · rw [d0]
    exact brn_t rfl (k M R ⟨d1, d2⟩)
theorem x_orders {p : Int32} {post : Int32 → Mem → Prop} (I : IX T s) (R : RX s M) (k : ∀ M', RX (fOrd s p).2 M' → post (fOrd s p).1 M') : P_NB_orders M p post := by
  have h7 := I.1.1
  have pl := perms_len h7
  have fl := List.length_filter_le (okO (xP s) (xE s)) (perms (pN (xP s)))
  intro R18 k18
  unfold B_NB_orders_i
  unfold fOrd at k
  by_cases c : p = -1
  · rw [if_pos c] at k
    refine ⟨fun _ => ?_, fun z => absurd c z⟩
    apply k18
    unfold B_NB_orders_18
    refine s_srefresh I R (fun M1 R1 F => ⟨fun z => absurd c z, fun _ => ?_⟩)
    rw [F.1]
    exact k M1 R1
  · rw [if_neg c] at k
    refine ⟨fun z => absurd z c, fun _ => s_has R.1.1 h7 (fun g hg e => brn_f (by decide) ?_) (fun q => brn_t rfl ?_)⟩
    · subst e
      rw [gi_some hg (by omega)] at k
      simp only at k
      apply k18
      unfold B_NB_orders_18
      refine s_srefresh I R (fun M1 R1 F => ⟨fun _ => ?_, fun z => absurd z c⟩)
      have k := k M1
      unfold P_Sightings_firstOrderAt B_Sightings_firstOrderAt_i
      rw [F.1]
      cases e : (orL (xP s) (xE s)).head? with
      | none =>
        rw [e] at k
        have : orL (xP s) (xE s) = [] := List.head?_eq_none_iff.mp e
        rw [this]
        exact br_t (by decide) (k R1)
      | some l =>
        rw [e] at k
        have : 0 < (orL (xP s) (xE s)).length := by
          cases ee : orL (xP s) (xE s) with
          | nil => rw [ee] at e; cases e
          | cons a b => exact Nat.succ_pos _
        have fl' : (orL (xP s) (xE s)).length ≤ (perms (pN (xP s))).length := fl
        refine br_f (show ¬ nI (orL (xP s) (xE s)).length ≤ nI 0 from nI_ge this (by omega)) (s_has_t R1.1.1 h7 hg (br_f (by decide) ⟨vin (by omega) (by decide), ?_⟩))
        rw [cl (by omega), F.2 l e g hg]
        exact k R1
    · rw [gi_none (by omega) q] at k
      exact k M R
end
