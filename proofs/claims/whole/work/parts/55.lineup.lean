def LNi (P : PT) (h : HT) (i : Nat) (l : List Nat) : Prop := l.Pairwise (fun a b => hU h a ≤ hU h b) ∧ ∀ t, l.filter (fun g => decide (hU h g = t)) = (List.range i).filter (fun g => decide (hW h g = 0 ∧ hU h g = t))
theorem lni_mem {P : PT} {h : HT} {i : Nat} {l : List Nat} (L : LNi P h i l) (g : Nat) (z : g ∈ l) : g < i := by
  have e := L.2 (hU h g)
  have : g ∈ l.filter (fun j => decide (hU h j = hU h g)) := List.mem_filter.mpr ⟨z, decide_eq_true rfl⟩
  rw [e, List.mem_filter, List.mem_range] at this
  exact this.1
theorem lni_skip {P : PT} {h : HT} {i : Nat} {l : List Nat} (L : LNi P h i l) (c : ¬ hW h i = 0) : LNi P h (i + 1) l := by
  refine ⟨L.1, fun t => ?_⟩
  rw [L.2 t, List.range_succ, List.filter_append, List.filter_cons_of_neg (by rw [decide_eq_true_iff]; exact fun z => c z.1), List.filter_nil, List.append_nil]
theorem lni_ins {P : PT} {h : HT} {i : Nat} {A B : List Nat} (L : LNi P h i (A ++ B)) (c : hW h i = 0) (hA : ∀ x, x ∈ A → hU h x ≤ hU h i) (hB : ∀ x, x ∈ B → hU h i < hU h x) : LNi P h (i + 1) (A ++ i :: B) := by
  obtain ⟨L1, L2⟩ := L
  rw [List.pairwise_append] at L1
  refine ⟨?_, fun t => ?_⟩
  · rw [List.pairwise_append, List.pairwise_cons]
    refine ⟨L1.1, ⟨fun x hx => Nat.le_of_lt (hB x hx), L1.2.1⟩, fun x hx y hy => ?_⟩
    rcases List.mem_cons.mp hy with z | z
    · subst z; exact hA x hx
    · exact L1.2.2 x hx y z
  · have e := L2 t
    rw [List.filter_append] at e
    rw [List.filter_append, List.range_succ, List.filter_append, ← e]
    by_cases z : hU h i = t
    · have n : B.filter (fun g => decide (hU h g = t)) = [] := flt_nil (fun x hx => decide_eq_false (by have := hB x hx; omega))
      rw [List.filter_cons_of_pos (by rw [decide_eq_true_iff]; exact z), n, List.filter_cons_of_pos (by rw [decide_eq_true_iff]; exact ⟨c, z⟩), List.append_nil, List.filter_nil]
    · rw [List.filter_cons_of_neg (by rw [decide_eq_true_iff]; exact z), List.filter_cons_of_neg (by rw [decide_eq_true_iff]; exact fun y => z y.2), List.filter_nil, List.append_nil]
/-- only the line of the outlook at a changes -/
def Fl (a : Nat) (M M' : Mem) : Prop := (∀ q, q ≠ a → q ≠ a + 1 → M' q = M q) ∧ ∀ i, i ≠ 6 → M' a i = M a i
theorem Fl.rf {a : Nat} {M : Mem} : Fl a M M := ⟨fun _ _ _ => rfl, fun _ _ => rfl⟩
theorem Fl.tr {a : Nat} {M M1 M2 : Mem} (x : Fl a M M1) (y : Fl a M1 M2) : Fl a M M2 := ⟨fun q h1 h2 => (y.1 q h1 h2).trans (x.1 q h1 h2), fun q hq => (y.2 q hq).trans (x.2 q hq)⟩
theorem Fl.set6 {a : Nat} {v : Int32} {M M' : Mem} (x : Fl a M M') : Fl a M (mset M' a 6 v) := ⟨fun q h1 h2 => by rw [mset_ne h1]; exact x.1 q h1 h2, fun i hi => by rw [ms_j hi]; exact x.2 i hi⟩
theorem Fl.set1 {a i : Nat} {v : Int32} {M M' : Mem} (x : Fl a M M') : Fl a M (mset M' (a + 1) i v) := ⟨fun q h1 h2 => by rw [mset_ne h2]; exact x.1 q h1 h2, fun i hi => by rw [ms_k (by omega)]; exact x.2 i hi⟩
section
variable {M : Mem} {a p : Nat} {P : PT} {h : HT}
theorem s_lineUp {post : Mem → Prop} (hP : PR M 4 P) (pw : PW P) (hh : HR M p (pN P) h) (v : GV P h) (ha : 11 ≤ a) (hp : p + 8 ≤ a ∨ a + 6 ≤ p) (k : ∀ M' l, LN P h l → M' a 6 = nI l.length → (∀ i x, l[i]? = some x → M' (a + 1) i = nI x) → l.length ≤ 7 → Fl a M M' → post M') : P_Outlook_lineUp M a p post := by
  have h7 := pw.1
  intro R7 R47 R91 k7 k47 k91
  have PF : ∀ M1, Fl a M M1 → PR M1 4 P := fun M1 f => hP.of (fun q _ _ => f.1 q (by omega) (by omega))
  have HF : ∀ M1, Fl a M M1 → HR M1 p (pN P) h := fun M1 f => hh.of (fun q _ _ => f.1 q (by omega) (by omega))
  have LL : ∀ i, i ≤ pN P → ∀ M1 l, LNi P h i l → M1 a 6 = nI l.length → (∀ j x, l[j]? = some x → M1 (a + 1) j = nI x) → l.length ≤ i → Fl a M M1 → R7 M1 (nI i) := by
    refine up_loop (fun i hi ih M1 l L e6 el ll f => ?_) (fun M1 l L e6 el ll f => ?_)
    · have P1 := PF M1 f
      have h1 := HF M1 f
      obtain ⟨v1, v2, -⟩ := v.2 i hi
      obtain ⟨y1, y2, -⟩ := h1.2.2 i hi
      have fin : ∀ A B M2, l = A ++ B → (∀ x, x ∈ A → hU h x ≤ hU h i) → (∀ b, b ∈ B → hU h i < hU h b) → hW h i = 0 → M2 a 6 = nI l.length → (∀ j x, A[j]? = some x → M2 (a + 1) j = nI x) → (∀ j x, B[j]? = some x → M2 (a + 1) (A.length + 1 + j) = nI x) → Fl a M M2 → R91 M2 (nI i) (nI A.length) := by
        intro A B M2 e hA hB c e6 eA eB f2
        have hl : l.length = A.length + B.length := by rw [e, List.length_append]
        apply k91
        unfold B_Outlook_lineUp_91
        simp (disch := omega) only [cl, forall_eq, ms_k, e6, nI_1]
        refine ⟨vin (by omega) (by decide), ih _ (A ++ i :: B) (lni_ins (by rw [← e]; exact L) c hA hB) ?_ (fun j x hx => ?_) ?_ (f2.set1.set6)⟩
        · rw [ms_s, List.length_append, List.length_cons, hl]; exact congrArg nI (by omega)
        · rw [ms_k (by omega)]
          by_cases z : j < A.length
          · rw [List.getElem?_append_left z] at hx
            rw [ms_j (by omega)]; exact eA j x hx
          · rw [List.getElem?_append_right (by omega)] at hx
            by_cases y : j = A.length
            · subst y
              rw [Nat.sub_self] at hx
              cases hx
              rw [ms_s]
            · rw [ms_j y]
              obtain ⟨d, hd⟩ : ∃ d, j = A.length + 1 + d := ⟨j - A.length - 1, by omega⟩
              subst hd
              rw [show A.length + 1 + d - A.length = d + 1 by omega] at hx
              exact eB d x hx
        · rw [List.length_append, List.length_cons]; omega
      have inner : ∀ m A B M2, A.length = m → l = A ++ B → (∀ b, b ∈ B → hU h i < hU h b) → hW h i = 0 → M2 a 6 = nI l.length → (∀ j x, A[j]? = some x → M2 (a + 1) j = nI x) → (∀ j x, B[j]? = some x → M2 (a + 1) (A.length + 1 + j) = nI x) → Fl a M M2 → R47 M2 (nI i) (nI m) := by
        intro m
        induction m with
        | zero =>
          intro A B M2 eA e hB c e6 gA gB f2
          have : A = [] := List.eq_nil_of_length_eq_zero eA
          apply k47
          unfold B_Outlook_lineUp_47
          refine br_t (nI_le (a := 0) (b := 0) (Nat.le_refl _) (by decide)) ?_
          have := fin A B M2 e (fun x hx => by rw [this] at hx; exact absurd hx List.not_mem_nil) hB c e6 gA gB f2
          rw [eA] at this
          exact this
        | succ m im =>
          intro A B M2 eA e hB c e6 gA gB f2
          have hne : A ≠ [] := fun z => by rw [z] at eA; cases eA
          obtain ⟨A', x, hA⟩ : ∃ A' x, A = A' ++ [x] := ⟨A.dropLast, A.getLast hne, (List.dropLast_concat_getLast hne).symm⟩
          have eA' : A'.length = m := by rw [hA, List.length_append] at eA; exact Nat.succ.inj eA
          have hl : l.length = m + 1 + B.length := by rw [e, List.length_append, eA]
          have hxl : x ∈ l := by rw [e, hA]; exact List.mem_append_left _ (List.mem_append_right _ (List.mem_singleton.mpr rfl))
          have xi := lni_mem L x hxl
          have gx : M2 (a + 1) m = nI x := gA m x (by rw [hA, List.getElem?_append_right (by omega), eA', Nat.sub_self]; rfl)
          have h2 := HF M2 f2
          have ux := (v.2 x (by omega)).2.1
          apply k47
          unfold B_Outlook_lineUp_47
          refine br_f (show ¬ nI (m + 1) ≤ nI 0 from nI_ge (by omega) (by omega)) ?_
          have em : nI (m + 1) - 1 = nI m := by rw [show (1 : Int32) = nI 1 from rfl, pk_sub (by omega)]; exact congrArg nI (by omega)
          rw [em, show nI (m + 1) + (-1) = nI m from (Int32.sub_eq_add_neg _ _).symm.trans em]
          have P2 := (PF M2 f2).1
          simp (disch := omega) only [cl, forall_eq, gx]
          refine ⟨vin (by omega) (by decide), s_hourOf P2 h7 h2 (by omega) (s_hourOf P2 h7 h2 hi ?_)⟩
          by_cases z : hU h x ≤ hU h i
          · refine br_t (nI_le z (by omega)) ?_
            have := fin A B M2 e (fun y hy => ?_) hB c e6 gA gB f2
            · rw [eA] at this; exact this
            · rw [hA] at hy
              rcases List.mem_append.mp hy with q | q
              · have Lp := L.1
                rw [e, hA, List.pairwise_append, List.pairwise_append] at Lp
                have := Lp.1.2.2 y q x (List.mem_singleton.mpr rfl)
                omega
              · rw [List.mem_singleton.mp q]; exact z
          · refine br_f (nI_ge (by omega) (by omega)) ⟨vin (by omega) (by decide), vin (by omega) (by decide), ?_⟩
            refine im A' (x :: B) _ eA' (by rw [e, hA, List.append_assoc]; rfl) (fun b hb => ?_) c ?_ (fun j y hy => ?_) (fun j y hy => ?_) (f2.set1)
            · rcases List.mem_cons.mp hb with q | q
              · subst q; omega
              · exact hB b q
            · rw [ms_k (by omega)]; exact e6
            · have hj : j < A'.length := (List.getElem?_eq_some_iff.mp hy).1
              rw [ms_j (by omega)]
              exact gA j y (by rw [hA, List.getElem?_append_left hj]; exact hy)
            · cases j with
              | zero => cases hy; rw [eA', Nat.add_zero, ms_s]; exact gx
              | succ j =>
                rw [ms_j (by omega)]
                have := gB j y hy
                rw [eA] at this
                rw [eA', show m + 1 + (j + 1) = m + 1 + 1 + j by omega]; exact this
      apply k7
      unfold B_Outlook_lineUp_7
      rw [show M1 4 6 = nI (pN P) from P1.1]
      refine br7_f hi h7 ?_
      simp (disch := omega) only [cl, forall_eq, y1, nI_1, e6]
      refine ⟨vin (by omega) (by decide), ?_⟩
      by_cases c : hW h i = 0
      · refine brn_t (by rw [c]; rfl) (br_f (nI_ge (b := 7) (by omega) (by decide)) (inner l.length l [] M1 rfl (List.append_nil l).symm (fun b hb => absurd hb List.not_mem_nil) c e6 el (fun j x hx => by cases hx) f))
      · exact brn_f (fun z => c (nI_inj (b := 0) (by omega) (by decide) z)) (ih M1 l (lni_skip L c) e6 el (by omega) f)
    · apply k7
      unfold B_Outlook_lineUp_7
      rw [show M1 4 6 = nI (pN P) from (PF M1 f).1]
      exact br7_t h7 (k M1 l L e6 el (by omega) f) (k M1 l L e6 el (by omega) f)
  unfold B_Outlook_lineUp_i
  simp only [forall_eq]
  exact LL 0 (Nat.zero_le _) _ [] ⟨List.Pairwise.nil, fun t => rfl⟩ (ms_s _ _ _ _) (fun j x hx => by cases hx) (Nat.le_refl _) Fl.rf.set6
theorem s_look {post : Mem → Prop} (hP : PR M 4 P) (pw : PW P) (hh : HR M p (pN P) h) (v : GV P h) (ht : hT h < 2 ^ 20) (ha : 11 ≤ a) (hp : p + 8 ≤ a ∨ a + 6 ≤ p) (k : ∀ M' l, LN P h l → l.length ≤ 7 → OR M' a (pN P) (oA P h l) → (∀ q, (q < a ∨ a + 6 ≤ q) → M' q = M q) → post M') : P_Outlook_look M a p post := by
  unfold P_Outlook_look B_Outlook_look_i
  refine s_lineUp hP pw hh v ha hp (fun M1 l L e6 el l7 f => ?_)
  refine s_reckon (hP.of (fun q _ _ => f.1 q (by omega) (by omega))) pw (hh.of (fun q _ _ => f.1 q (by omega) (by omega))) v ht ha hp L e6 el l7 (fun M2 O f2 => k M2 l L l7 O (fun q hq => ?_))
  exact (f2.1 q hq).trans (f.1 q (by omega) (by omega))
end
