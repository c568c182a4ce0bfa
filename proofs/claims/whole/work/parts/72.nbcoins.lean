theorem mc {M : Mem} {co : Nat → Int32} {n c : Nat} {v : Int32} (h : ∀ g, g < n → M 147 g = co g) : ∀ g, g < n → mset M 147 c v 147 g = va_up co c v g := fun g hg => by
  by_cases z : g = c
  · subst z; rw [ms_s, up_s]
  · rw [ms_j z, up_n z]; exact h g hg
def F147 (M M' : Mem) : Prop := ∀ q, q ≠ 147 → M' q = M q
section
variable {M : Mem} {P : PT}
theorem s_pay {co : Nat → Int32} {cap abv : Option Nat} {tips : Int32} {post : Mem → Prop} (hn : M 4 6 = nI (pN P)) (h7 : pN P ≤ 7) (hc : ∀ c, cap = some c → c < pN P) (ha : ∀ c, abv = some c → c < pN P) (h : ∀ g, g < pN P → M 147 g = co g) (k : ∀ M', (∀ g, g < pN P → M' 147 g = payO co cap abv tips g) → F147 M M' → post M') : P_Sightings_payOut M (oI cap) (oI abv) tips post := by
  unfold P_Sightings_payOut B_Sightings_payOut_i
  refine s_has_o hn h7 hc (fun e => brn_t rfl (k M (by rw [e]; exact h) (fun _ _ => rfl))) (fun c e => brn_f (by decide) ?_)
  have hcn := hc c e
  subst e
  show vp_in (nI c) 7 ∧ _
  simp (disch := omega) only [oI, cl, forall_eq]
  refine ⟨vin (by omega) (by decide), vin (by omega) (by decide), ?_⟩
  rw [h c hcn]
  have h1 := mc (c := c) (v := co c + tips) h
  have hn1 : mset M 147 c (co c + tips) 4 6 = nI (pN P) := by rw [mset_ne (by decide)]; exact hn
  refine s_has_o hn1 h7 ha (fun e => br_t rfl (k _ (by rw [e]; exact h1) (fun q hq => mset_ne hq))) (fun b e => br_f (by decide) ?_)
  have hbn := ha b e
  subst e
  simp (disch := omega) only [oI, cl, forall_eq]
  refine ⟨vin (by omega) (by decide), vin (by omega) (by decide), vin (by omega) (by decide), vin (by omega) (by decide), vin (by omega) (by decide), k _ (fun g hg => ?_) (fun q hq => by rw [mset_ne hq, mset_ne hq, mset_ne hq])⟩
  have e1 := h1 c hcn
  rw [up_s] at e1
  rw [e1]
  have h2 := mc (c := c) (v := (co c + tips) - (co c + tips) / 2) h1
  rw [h2 b hbn]
  have h3 := mc (c := b) (v := va_up (va_up co c (co c + tips)) c ((co c + tips) - (co c + tips) / 2) b + (co c + tips) / 2) h2
  exact h3 g hg
theorem s_come {l : List Nat} {post : Mem → Prop} (hP : PR M 4 P) (pw : PW P) (o : OM M l) (hl : l.length = pN P) (hx : ∀ x, x ∈ l → x < pN P) (k : ∀ M', (∀ g, g < pN P → M' 147 g = coO P l g) → F147 M M' → post M') : P_Sightings_comeInOrder M post := by
  have h7 := pw.1
  intro R2 R43 k2 k43
  have L : ∀ (B A : List Nat) (t : OT) M1, l = A ++ B → t = A.foldl (stpO P) (none, none, 0, fun _ => 0) → (∀ c, t.1 = some c → c < pN P) → (∀ c, t.2.1 = some c → c < pN P) → (∀ g, g < pN P → M1 147 g = t.2.2.2 g) → F147 M M1 → R43 M1 (oI t.1) (oI t.2.1) t.2.2.1 (nI A.length) := by
    intro B
    induction B with
    | nil =>
      intro A t M1 e et h1 h2 h3 F
      rw [List.append_nil] at e
      subst e
      apply k43
      unfold B_Sightings_comeInOrder_43
      rw [F 4 (by decide), hP.1, hl]
      refine br7_e h7 (k M1 (fun g hg => ?_) F)
      rw [h3 g hg, et]; rfl
    | cons x B ih =>
      intro A t M1 e et h1 h2 h3 F
      have hA : A.length < pN P := by rw [← hl, e, List.length_append, List.length_cons]; omega
      have gx : M1 145 A.length = nI x := by
        rw [F 145 (by decide)]
        exact o _ x (by rw [e, List.getElem?_append_right (Nat.le_refl _), Nat.sub_self]; rfl)
      have hxn : x < pN P := hx x (by rw [e]; exact List.mem_append_right _ (List.mem_cons_self ..))
      have P1 : PR M1 4 P := hP.of (fun q _ _ => F q (by omega))
      obtain ⟨p1, p2, p3, p4⟩ := P1.2 x hxn
      have q1 := (pw.2 x hxn).1
      apply k43
      unfold B_Sightings_comeInOrder_43
      rw [P1.1]
      simp (disch := omega) only [cl, forall_eq, gx, nI_1]
      refine br7_f hA h7 ⟨vin (by omega) (by decide), s_has_t P1.1 h7 hxn (br_f (by decide) ⟨vin (by omega) (by decide), vin (by omega) (by decide), ?_⟩)⟩
      rw [show M1 5 x = nI (pK P x) from p1, show M1 8 x = nI (pT P x) from p3]
      have nx := ih (A ++ [x]) (stpO P t x)
      rw [List.length_append, List.foldl_append] at nx
      have es : stpO P t x = if pK P x = 2 then (t.1, t.2.1, t.2.2.1 + nI (pT P x), t.2.2.2) else (some x, t.1, 0, payO t.2.2.2 t.1 t.2.1 (t.2.2.1 + nI (pT P x))) := rfl
      by_cases kb : pK P x = 2
      · rw [if_pos kb] at es
        refine br_t (by rw [kb]; rfl) ?_
        rw [es] at nx
        exact nx M1 (by rw [e, List.append_assoc]; rfl) (by rw [← et]; exact es.symm) h1 h2 h3 F
      · rw [if_neg kb] at es
        refine br_f (fun z => kb (nI_inj (b := 2) (by omega) (by decide) z)) (s_pay P1.1 h7 h1 h2 h3 (fun M2 h4 F2 => ?_))
        rw [es] at nx
        exact nx M2 (by rw [e, List.append_assoc]; rfl) (by rw [← et]; exact es.symm) (fun c z => by cases z; exact hxn) h1 h4 (fun q hq => (F2 q hq).trans (F q hq))
  have L2 : ∀ i, i ≤ pN P → ∀ M1, (∀ g, g < i → M1 147 g = 0) → F147 M M1 → R2 M1 (nI i) := by
    refine up_loop (fun i hi ih M1 z F => ?_) (fun M1 z F => ?_)
    · apply k2
      unfold B_Sightings_comeInOrder_2
      rw [F 4 (by decide), hP.1]
      simp (disch := omega) only [cl, forall_eq, nI_1]
      refine br7_f hi h7 ⟨vin (by omega) (by decide), ih _ (fun g hg => ?_) (fun q hq => by rw [mset_ne hq]; exact F q hq)⟩
      by_cases c : g = i
      · subst c; exact ms_s _ _ _ _
      · rw [ms_j c]; exact z g (by omega)
    · apply k2
      unfold B_Sightings_comeInOrder_2
      rw [F 4 (by decide), hP.1]
      refine br7_e h7 ?_
      simp only [forall_eq]
      exact L l [] (none, none, 0, fun _ => 0) M1 rfl rfl (fun c z => (Option.some_ne_none c z.symm).elim) (fun c z => (Option.some_ne_none c z.symm).elim) z F
  unfold B_Sightings_comeInOrder_i
  simp only [forall_eq]
  exact L2 0 (Nat.zero_le _) M (fun g hg => absurd hg (Nat.not_lt_zero _)) (fun _ _ => rfl)
theorem s_asSeen {l : List Nat} {e : List (Nat × Nat)} {post : Int32 → Mem → Prop} (hP : PR M 4 P) (pw : PW P) (S : SN M e) (he : e.length ≤ 7) (hq : ∀ q, q ∈ e → q.1 < pN P ∧ q.2 ≤ 200) (co : ∀ g, g < pN P → M 147 g = coO P l g) (k : post (isB (okO P e l)) M) : P_Sightings_isAsSeen M post := by
  have h7 := pw.1
  intro R2 k2
  have L : ∀ (B A : List (Nat × Nat)), e = A ++ B → okO P A l = true → R2 M (nI A.length) := by
    intro B
    induction B with
    | nil =>
      intro A ea ok
      rw [List.append_nil] at ea
      subst ea
      apply k2
      unfold B_Sightings_isAsSeen_2
      rw [S.1]
      rw [ok] at k
      exact br7_e he k
    | cons q B ih =>
      intro A ea ok
      obtain ⟨qa, qb⟩ := q
      have hA : A.length < e.length := by rw [ea, List.length_append, List.length_cons]; omega
      obtain ⟨g1, g2⟩ := S.2 A.length (qa, qb) (by rw [ea, List.getElem?_append_right (Nat.le_refl _), Nat.sub_self]; rfl)
      obtain ⟨q1, q2⟩ := hq (qa, qb) (by rw [ea]; exact List.mem_append_right _ (List.mem_cons_self ..))
      have g1 : M 143 A.length = nI qa := g1
      have g2 : M 144 A.length = nI qb := g2
      have q1 : qa < pN P := q1
      apply k2
      unfold B_Sightings_isAsSeen_2
      rw [S.1]
      refine br7_f hA he ⟨vin (by omega) (by decide), ?_⟩
      rw [cl (show A.length < 2 ^ 31 by omega), g1]
      refine s_has_t hP.1 h7 q1 (br_f (by decide) ?_)
      rw [g1, g2, cl (show qa < 2 ^ 31 by omega)]
      simp only [forall_eq, nI_1]
      refine ⟨vin (by omega) (by decide), vin (by omega) (by decide), vin (by omega) (by decide), ?_⟩
      rw [co qa q1]
      by_cases c : coO P l qa = nI qb
      · refine br_t c ?_
        have := ih (A ++ [(qa, qb)]) (by rw [ea, List.append_assoc]; rfl) (by
          unfold okO at ok ⊢
          rw [List.all_append, ok, List.all_cons, List.all_nil, decide_eq_true c]; rfl)
        rw [List.length_append] at this
        exact this
      · have : okO P e l = false := by
          unfold okO
          rw [ea, List.all_append, List.all_cons, decide_eq_false c, Bool.false_and, Bool.and_false]
        rw [this] at k
        exact br_f c k
  unfold B_Sightings_isAsSeen_i
  simp only [forall_eq]
  exact L e [] rfl rfl
end
