theorem smS_0 (P : PT) (h : HT) : ∀ i, smS P h 0 i = 0
  | 0 => rfl
  | i + 1 => by
    unfold smS
    rw [smS_0 P h i, Nat.zero_div, if_neg (by decide)]
theorem up_up {α : Type} (f : Nat → α) (g : Nat) (x y : α) : va_up (va_up f g x) g y = va_up f g y := funext (fun j => by
  by_cases c : j = g
  · subst c; rw [up_s, up_s]
  · rw [up_n c, up_n c, up_n c])
theorem up_self {α : Type} (f : Nat → α) (g : Nat) : va_up f g (f g) = f := funext (fun j => by
  by_cases c : j = g
  · subst c; rw [up_s]
  · rw [up_n c])
theorem sU_sU (h : HT) (g x y : Nat) : sU (sU h g x) g y = sU h g y := by
  show (_, _, _, va_up (va_up (hU h) g x) g y, _) = (_, _, _, va_up (hU h) g y, _)
  rw [up_up]; rfl
theorem sU_self (h : HT) (g : Nat) : sU h g (hU h g) = h := by
  show (_, _, _, va_up (hU h) g (hU h g), _) = h
  rw [up_self]; rfl
def b1 : Option (Nat × Nat) → Int32
  | none => -4
  | some r => nI r.1
def b2 : Option (Nat × Nat) → Int32
  | none => -4
  | some r => nI r.2
def oI2 : Option Nat × Nat → Int32 := fun b => oI b.1
section
variable {T : Nat} {s : ST} {M : Mem}
theorem tsk_b {P : PT} {h : HT} {g : Nat} (v : GV P h) (pw : PW P) (hg : g < pN P) : tsk P h g ≤ 69 * 7 := by
  unfold tsk
  have go : ∀ m i, i ≤ pN P → smS P h m i ≤ 69 * i := fun m i => by
    induction i with
    | zero => intro _; exact Nat.le_refl _
    | succ i ih =>
      intro hi
      unfold smS
      have := ih (by omega)
      have := brg_le (h := h) pw (show i < pN P by omega) (v.2 i (by omega)).2.2.1
      split <;> omega
  have := go (hS (itp P (41 - hT h) h) g) (pN P) (Nat.le_refl _)
  have := pw.1
  omega
theorem x_early {p q : Int32} {post : Int32 → Mem → Prop} (I : IX T s) (n : IN s) (R : RX s M) (k : ∀ M', RX (fEarly s p q).2 M' → post (fEarly s p q).1 M') : P_NB_early M p q post := by
  have pw := I.1
  have h7 := I.1.1
  have v := I.2.2.1.1
  have t20 := t20 I
  intro R67 k67
  unfold B_NB_early_i
  unfold fEarly at k
  refine s_has R.1.1 h7 (fun g hg e => br_f (by decide) ?_) (fun q => br_t rfl ?_)
  · subst e
    rw [gi_some hg (by omega)] at k
    rcases rg_cases 0 1 (by decide) q with ⟨e, c⟩ | ⟨w, e, c1, c2, rfl⟩
    · rw [e] at k
      have k := k M R
      refine br_c (fun _ => k) (fun d => br_c (fun d2 => ?_) (fun _ => k))
      rw [i_lt] at d
      rw [i_le] at d2
      have d : ¬ q.toInt < 0 := d
      have d2 : q.toInt ≤ 1 := d2
      omega
    · rw [e] at k
      simp only at k
      refine br_f (nI_pos (by omega)) (br_t (nI_le (b := 1) c2 (by decide)) ?_)
      refine s_booked_t R.1.1 h7 R.2.1 (hw31 I) hg (fun c => brn_f (by decide) ?_) (fun c => brn_t rfl ?_)
      · rw [if_pos c] at k
        obtain ⟨u1, u2, u3, u4⟩ := (v.2 g hg).2.2.2.2.2.2.1 c
        have u40 := (v.2 g hg).2.1
        have L : ∀ d x b M1 y, x + d = 41 → hT (xH s) ≤ x → hT (xH s) ≤ y → y ≤ 40 → eL (xP s) (xH s) g d x b = eL (xP s) (xH s) g (41 - hT (xH s)) (hT (xH s)) none → (∀ r, b = some r → r.1 ≤ 40 ∧ r.2 < 2 ^ 20) → HR M1 26 (pN (xP s)) (sU (xH s) g y) → (∀ q, (q < 26 ∨ 40 ≤ q) → M1 q = M q) → R67 M1 (b1 b) (b2 b) (nI x) := by
          intro d
          induction d with
          | zero =>
            intro x b M1 y ex hx hy hy2 eb rb H f
            apply k67
            unfold B_NB_early_67
            refine br_t (nI_lt (a := 40) (by omega) (by omega)) ?_
            have kk := k M1
            rw [← eb] at kk
            unfold eL at kk
            cases b with
            | none =>
              have kk := kk (rx_look R f)
              exact ⟨fun _ => kk, fun _ => kk⟩
            | some r =>
              simp only at kk
              by_cases z : w = 0
              · subst z
                exact ⟨fun y => absurd rfl y, fun _ => kk (rx_look R f)⟩
              · rw [if_neg z] at kk
                exact ⟨fun _ => kk (rx_look R f), fun y => absurd (nI_inj (b := 0) (by omega) (by decide) y) z⟩
          | succ d ih =>
            intro x b M1 y ex hx hy hy2 eb rb H f
            apply k67
            unfold B_NB_early_67
            refine br_f (nI_nlt (a := 40) (b := x) (by omega) (by decide)) ?_
            have R1 := rx_look R f
            refine s_rebook (h := sU (xH s) g y) R1.1.1 h7 H (hw31 I) (show hT (xH s) < 2 ^ 31 by omega) (by omega) hg (fun M2 H2 f2 => ?_)
            rw [if_pos ⟨c, hx⟩, sU_sU] at H2
            have f12 : ∀ q, (q < 26 ∨ 40 ≤ q) → M2 q = M q := fun q hq => (f2 q (by omega)).trans (f q hq)
            have v2 := gv_sU (g := g) v hx (show x ≤ 40 by omega)
            refine s_look (rx_look R f12).1 pw H2 v2 t20 (by decide) (Or.inl (by decide)) (fun M3 l L l7 O f3 => ?_)
            have f13 : ∀ q, (q < 26 ∨ 40 ≤ q) → M3 q = M q := fun q hq => (f3 q (by omega)).trans (f12 q hq)
            have H3 : HR M3 26 (pN (xP s)) (sU (xH s) g x) := H2.of (fun q h1 h2 => f3 q (by omega))
            have et := tsk_eq v2 pw n.1 L hg
            rw [show hS (sU (xH s) g x) g = 0 from u4, smS_0, Nat.zero_add] at et
            have tb := tsk_b v2 pw hg
            have el : M3 39 g = nI (tsk (xP s) (sU (xH s) g x) g) := by rw [et]; exact (O.2.2 g hg).2.2.2
            simp (disch := omega) only [cl, el, nI_1, forall_eq]
            have nx : ∀ b', b' = eSt (xP s) (xH s) g x b → R67 M3 (b1 b') (b2 b') (nI (x + 1)) := fun b' eb' => by
              refine ih (x + 1) b' M3 x (by omega) (by omega) hx (by omega) (by rw [eb', ← eb]; rfl) (fun r hr => ?_) H3 f13
              rw [eb'] at hr
              unfold eSt at hr
              split at hr
              · cases hr; exact ⟨by show x ≤ 40; omega, by show tsk _ _ _ < _; omega⟩
              · split at hr
                · cases hr; exact ⟨by show x ≤ 40; omega, by show tsk _ _ _ < _; omega⟩
                · cases hr; exact rb _ rfl
            cases b with
            | none => exact br_t rfl ⟨vin (by omega) (by decide), nx (some (x, _)) rfl⟩
            | some r =>
              have rr := rb r rfl
              refine br_f (nI_ne4 (by omega)) ⟨vin (by omega) (by decide), ?_⟩
              show ((nI r.2 ≤ _) → _) ∧ _
              by_cases z : tsk (xP s) (sU (xH s) g x) g < r.2
              · refine br_f (nI_ge z (by omega)) ⟨vin (by omega) (by decide), nx (some (x, tsk (xP s) (sU (xH s) g x) g)) ?_⟩
                unfold eSt; simp only; rw [if_pos z]
              · refine br_t (nI_le (by omega) (by omega)) (nx (some r) ?_)
                unfold eSt; simp only; rw [if_neg z]
        refine s_copy h7 (Or.inl (by decide)) R.2.1 (fun M1 H1 f1 => ?_)
        simp only [forall_eq]
        have R1 := rx_look (M' := M1) R (fun q hq => f1 q (by omega))
        rw [R1.2.1.1, show imax 0 (nI (hT (xH s))) = nI (hT (xH s)) from by rw [show (0 : Int32) = nI 0 from rfl, imaxN (by decide) (by omega), Nat.zero_max]]
        exact L (41 - hT (xH s)) (hT (xH s)) none M1 (hU (xH s) g) (by omega) (Nat.le_refl _) u1 u40 rfl (fun r hr => by cases hr) (by rw [sU_self]; exact H1) (fun q hq => f1 q (by omega))
      · rw [if_neg c] at k
        exact k M R
  · rw [gi_none (by omega) q] at k
    exact k M R
theorem ns_off {P : PT} {h : HT} {g : Nat} (n : NS P h) (hg : hW h g = 0) : NS P (sW h g 3) := fun j hj e c hc => by
  have e : (if j = g then 3 else hW h j) = 0 := e
  split at e
  · cases e
  · exact n j hj e c hc
theorem x_off {q : Int32} {post : Int32 → Mem → Prop} (I : IX T s) (n : IN s) (R : RX s M) (k : ∀ M', RX (fOff s q).2 M' → post (fOff s q).1 M') : P_NB_off M q post := by
  have pw := I.1
  have h7 := I.1.1
  have v := I.2.2.1.1
  have t20 := t20 I
  intro R20 k20
  unfold B_NB_off_i
  unfold fOff at k
  rcases rg_cases 0 1 (by decide) q with ⟨e, c⟩ | ⟨w, e, c1, c2, rfl⟩
  · rw [e] at k
    have k := k M R
    refine br_c (fun _ => k) (fun d => br_c (fun d2 => ?_) (fun _ => k))
    rw [i_lt] at d
    rw [i_le] at d2
    have d : ¬ q.toInt < 0 := d
    have d2 : q.toInt ≤ 1 := d2
    omega
  · rw [e] at k
    simp only at k
    refine br_f (nI_pos (by omega)) (br_t (nI_le (b := 1) c2 (by decide)) ?_)
    simp only [forall_eq]
    have L : ∀ i, i ≤ pN (xP s) → ∀ M1, ((∀ c, (ofL (xP s) (xH s) i).1 = some c → c < pN (xP s)) ∧ (ofL (xP s) (xH s) i).2 ≤ 100) → (∀ q, (q < 26 ∨ 40 ≤ q) → M1 q = M q) → R20 M1 (oI (ofL (xP s) (xH s) i).1) (nI (ofL (xP s) (xH s) i).2) (nI i) := by
      refine up_loop (fun i hi ih M1 rb f => ?_) (fun M1 rb f => ?_)
      · have R1 := rx_look R f
        apply k20
        unfold B_NB_off_20
        rw [show M1 4 6 = nI (pN (xP s)) from R1.1.1]
        refine br7_f hi h7 ?_
        simp only [nI_1, forall_eq]
        refine s_booked_t R1.1.1 h7 R1.2.1 (hw31 I) hi (fun c => br_f (by decide) ?_) (fun c => br_t rfl ?_)
        · refine s_copy h7 (Or.inl (by decide)) R1.2.1 (fun M2 H2 f2 => ?_)
          have f12 : ∀ q, (q < 26 ∨ 40 ≤ q) → M2 q = M q := fun q hq => (f2 q (by omega)).trans (f q hq)
          refine s_callOff (rx_look R f12).1.1 h7 H2 (hw31 I) hi (fun M3 H3 f3 => ?_)
          rw [if_pos c] at H3
          have f13 : ∀ q, (q < 26 ∨ 40 ≤ q) → M3 q = M q := fun q hq => (f3 q (by omega)).trans (f12 q hq)
          have v3 := gv_off v hi c
          have n3 := ns_off n.1 c
          refine s_look (rx_look R f13).1 pw H3 v3 t20 (by decide) (Or.inl (by decide)) (fun M4 l L l7 O f4 => ?_)
          have f14 : ∀ q, (q < 26 ∨ 40 ≤ q) → M4 q = M q := fun q hq => (f4 q (by omega)).trans (f13 q hq)
          have ed := dn_eq v3 pw n3 L
          obtain ⟨u, -, -, V⟩ := ov_all v3 pw L l7
          rw [O.2.1]
          have eo : ofL (xP s) (xH s) (i + 1) = if hW (xH s) i = 0 ∧ dn (xP s) (sW (xH s) i 3) < (ofL (xP s) (xH s) i).2 then (some i, dn (xP s) (sW (xH s) i 3)) else ofL (xP s) (xH s) i := rfl
          by_cases z : oD (oA (xP s) (sW (xH s) i 3) l) < (ofL (xP s) (xH s) i).2
          · have ed2 : dn (xP s) (sW (xH s) i 3) = oD (oA (xP s) (sW (xH s) i 3) l) := by have := rb.2; omega
            refine br_f (nI_ge z (by have := rb.2; omega)) ?_
            have := ih M4
            rw [eo, if_pos ⟨c, by rw [ed2]; exact z⟩, ed2] at this
            exact this ⟨fun c e => by cases e; exact hi, by have := rb.2; show oD _ ≤ 100; omega⟩ f14
          · refine br_t (nI_le (by omega) (by omega)) ?_
            have := ih M4
            rw [eo, if_neg (fun y => by have := y.2; have := rb.2; omega)] at this
            exact this rb f14
        · have := ih M1
          rw [show ofL (xP s) (xH s) (i + 1) = ofL (xP s) (xH s) i from if_neg (fun z => c z.1)] at this
          exact this rb f
      · have R1 := rx_look R f
        apply k20
        unfold B_NB_off_20
        rw [show M1 4 6 = nI (pN (xP s)) from R1.1.1]
        refine br7_e h7 ?_
        have k := k M1
        cases e : (ofL (xP s) (xH s) (pN (xP s))).1 with
        | none =>
          rw [e] at k
          exact ⟨fun z => absurd rfl z, fun _ => k R1⟩
        | some c =>
          rw [e] at k
          simp only at k
          have := rb.1 c e
          refine brn_f (nI_ne4 (by omega)) ?_
          by_cases z : w = 0
          · subst z
            exact ⟨fun y => absurd rfl y, fun _ => k R1⟩
          · rw [if_neg z] at k
            exact ⟨fun _ => k R1, fun y => absurd (nI_inj (b := 0) (by omega) (by decide) y) z⟩
    exact L 0 (Nat.zero_le _) M ⟨fun c e => (Option.some_ne_none c e.symm).elim, Nat.le_refl _⟩ (fun _ _ => rfl)
end
