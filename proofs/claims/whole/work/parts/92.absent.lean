def sWW (h : HT) (f : Nat → Nat) : HT := (h.1, h.2.1, f, h.2.2.2)
/-- who is booked may have called off; the others are as they were -/
def WF (n : Nat) (h : HT) (f : Nat → Nat) : Prop := ∀ g, g < n → (hW h g = 0 ∧ (f g = 0 ∨ f g = 3)) ∨ (¬ hW h g = 0 ∧ f g = hW h g)
theorem nb_WF {n : Nat} {h : HT} {f : Nat → Nat} (w : WF n h f) : ∀ i, i ≤ n → nb h i ≤ nb (sWW h f) i
  | 0, _ => Nat.le_refl _
  | i + 1, hi => by
    have ih := nb_WF w i (by omega)
    have e : hW (sWW h f) i = f i := rfl
    unfold nb
    rw [e]
    rcases w i (by omega) with z | z
    · rw [if_pos z.1]; omega
    · rw [if_neg z.1, if_neg (by rw [z.2]; exact z.1)]; omega
theorem gv_WW {P : PT} {h : HT} {f : Nat → Nat} (v : GV P h) (w : WF (pN P) h f) : GV P (sWW h f) := by
  have hnb := nb_WF w (pN P) (Nat.le_refl _)
  have ew : ∀ g, hW (sWW h f) g = f g := fun _ => rfl
  refine ⟨fun c e => ?_, fun g hg => ?_⟩
  · have := v.1 c e
    refine ⟨this.1, ?_⟩
    rw [ew]
    rcases w c this.1 with z | z
    · omega
    · rw [z.2]; exact this.2
  · obtain ⟨v1, v2, v3, v4, v5, v6, v7, v8⟩ := v.2 g hg
    refine ⟨?_, v2, v3, by show hD h g ≤ _; omega, v5, v6, fun e => ?_, fun e => ?_⟩
    · rw [ew]; rcases w g hg with z | z <;> omega
    · rw [ew] at e
      rcases w g hg with z | z
      · exact v7 z.1
      · exact absurd (z.2.symm.trans e) z.1
    · rw [ew] at e
      rcases w g hg with z | z
      · omega
      · exact v8 (z.2.symm.trans e)
theorem ns_WW {P : PT} {h : HT} {f : Nat → Nat} (s : NS P h) (w : WF (pN P) h f) : NS P (sWW h f) := fun g hg e c hc => by
  have e : f g = 0 := e
  rcases w g hg with z | z
  · exact s g hg z.1 c hc
  · exact absurd (z.2.symm.trans e) z.1
/-- is one free behind 99 hours -/
def frF (P : PT) (h : HT) (g : Nat) (f : Nat → Nat) : Nat := if hW (itp P 99 (sWW h f)) g = 2 then 1 else 0
def upA (s : ST) (g x : Nat) : Nat := tT (xH s) x (pN (xP s)) (frF (xP s) (xH s) g)
def dnA (s : ST) : Nat := 10 ^ (bkd (xP s) (xH s)).length
def fAbs (s : ST) (p q w : Int32) : Int32 × ST := match gi (pN (xP s)) p, rg 0 10 q, rg 0 1 w with
  | some g, some x, some u => (if u = 0 then nI (upA s g x / Nat.gcd (dnA s) (upA s g x)) else nI (dnA s / Nat.gcd (dnA s) (upA s g x)), s)
  | _, _, _ => (-1, s)
theorem cw_le {x : Nat} (hx : x ≤ 10) (a : Nat) : ∀ k, cw x a k ≤ 10 ^ k
  | 0 => Nat.le_refl _
  | k + 1 => by
    unfold cw
    rw [Nat.pow_succ]
    refine Nat.mul_le_mul (cw_le hx a k) ?_
    split <;> omega
theorem p10 : ∀ k, k < 8 → 10 ^ k ≤ 10000000 := by decide
theorem cF_val {h : HT} {w : List Nat} (nd : w.Nodup) (a : Nat) : ∀ k, k ≤ w.length → (∀ e, e < k → cF h w a k (w.getD e 0) = if a / 2 ^ e % 2 = 1 then 3 else 0) ∧ ∀ g, (∀ e, e < k → g ≠ w.getD e 0) → cF h w a k g = hW h g
  | 0, _ => ⟨fun e he => absurd he (Nat.not_lt_zero _), fun _ _ => rfl⟩
  | k + 1, hk => by
    obtain ⟨i1, i2⟩ := cF_val (h := h) nd a k (by omega)
    have at' : ∀ e, e < w.length → w[e]? = some (w.getD e 0) := fun e he => by
      rw [List.getD_eq_getElem?_getD, List.getElem?_eq_getElem he]; rfl
    refine ⟨fun e he => ?_, fun g hg => ?_⟩
    · show va_up (cF h w a k) (w.getD k 0) _ (w.getD e 0) = _
      by_cases c : e = k
      · subst c; rw [up_s]
      · rw [up_n (fun z => c ?_)]
        · exact i1 e (by omega)
        · have h1 := at' e (by omega)
          have h2 := at' k (by omega)
          rw [z] at h1
          rw [← idx_nd _ _ _ nd h1, idx_nd _ _ _ nd h2]
    · show va_up (cF h w a k) (w.getD k 0) _ g = _
      rw [up_n (hg k (by omega))]
      exact i2 g (fun e he => hg e (by omega))
theorem wf_cF {P : PT} {h : HT} (a : Nat) : WF (pN P) h (cF h (bkd P h) a (bkd P h).length) := by
  obtain ⟨c1, c2⟩ := cF_val (h := h) (bkd_nd P h) a (bkd P h).length (Nat.le_refl _)
  intro g hg
  by_cases z : hW h g = 0
  · obtain ⟨e, he⟩ := List.getElem?_of_mem (bkd_mem.mpr ⟨hg, z⟩)
    have hel := (List.getElem?_eq_some_iff.mp he).1
    have := c1 e hel
    rw [List.getD_eq_getElem?_getD, he] at this
    have this : cF h (bkd P h) a (bkd P h).length g = if a / 2 ^ e % 2 = 1 then 3 else 0 := this
    refine Or.inl ⟨z, ?_⟩
    rw [this]
    split
    · exact Or.inr rfl
    · exact Or.inl rfl
  · refine Or.inr ⟨z, c2 g (fun e he w => z ?_)⟩
    rw [w]
    exact (lo_n he).2.1
section
variable {M : Mem} {P : PT} {h : HT}
theorem s_free {a g : Nat} {f0 : Nat → Nat} {post : Int32 → Mem → Prop} (hP : PR M 4 P) (pw : PW P) (v : GV P h) (n : NS P h) (ht : hT h < 2 ^ 20) (e4 : M 148 4 = nI (bkd P h).length) (e9 : ∀ e g : Nat, (bkd P h)[e]? = some g → M 149 e = nI g) (H : HR M 150 (pN P) (sWW h f0)) (w0 : WF (pN P) h f0) (ha : a < 2 ^ 31) (hg : g < pN P) (k : ∀ M', HR M' 150 (pN P) (sWW h (cF h (bkd P h) a (bkd P h).length)) → (∀ q, q < 150 → M' q = M q) → post (nI (frF P h g (cF h (bkd P h) a (bkd P h).length))) M') : P_Chance_isFreeWithout M (nI a) (nI g) post := by
  have h7 := pw.1
  have m7 := bk7 pw h
  intro R2 R66 k2 k66
  have tail : ∀ (f : Nat → Nat) M1, HR M1 150 (pN P) (sWW h f) → (∀ e, e < (bkd P h).length → f (lo P h e) = if a / 2 ^ e % 2 = 1 then 3 else 0) → (∀ j, j < pN P → ¬ hW h j = 0 → f j = hW h j) → (∀ q, q < 150 → M1 q = M q) → R66 M1 := by
    intro f M1 H1 f1 f2 F
    apply k66
    unfold B_Chance_isFreeWithout_66
    obtain ⟨c1, c2⟩ := cF_val (h := h) (bkd_nd P h) a (bkd P h).length (Nat.le_refl _)
    have wc := wf_cF (P := P) (h := h) a
    have eqf : ∀ j, j < pN P → f j = cF h (bkd P h) a (bkd P h).length j := fun j hj => by
      by_cases z : hW h j = 0
      · obtain ⟨e, he⟩ := List.getElem?_of_mem (bkd_mem.mpr ⟨hj, z⟩)
        have hel := (List.getElem?_eq_some_iff.mp he).1
        have el : lo P h e = j := by
          have := (lo_n hel).2.2
          rw [he] at this
          exact (Option.some.inj this).symm
        have x1 := f1 e hel
        have x2 := c1 e hel
        rw [show (bkd P h).getD e 0 = j from el] at x2
        rw [el] at x1
        rw [x1, x2]
      · rw [f2 j hj z]
        rcases wc j hj with y | y
        · exact absurd y.1 z
        · exact y.2.symm
    have HC : HR M1 150 (pN P) (sWW h (cF h (bkd P h) a (bkd P h).length)) := by
      refine ⟨H1.1, H1.2.1, fun j hj => ?_⟩
      obtain ⟨k1, k2', k3⟩ := H1.2.2 j hj
      exact ⟨k1.trans (congrArg nI (eqf j hj)), k2', k3⟩
    have vc := gv_WW v wc
    have nc := ns_WW n wc
    refine s_look (hP.of (fun q _ _ => F q (by omega))) pw HC vc ht (by decide) (Or.inl (by decide)) (fun M2 l Ln l7 O f3 => ?_)
    have F2 : ∀ q, q < 150 → M2 q = M q := fun q hq => (f3 q (by omega)).trans (F q hq)
    refine s_has_t (by rw [F2 4 (by decide)]; exact hP.1) h7 hg (br_f (by decide) ⟨vin (by omega) (by decide), ?_⟩)
    rw [cl (by omega), show M2 162 g = fI (oF (oA P (sWW h (cF h (bkd P h) a (bkd P h).length)) l) g) from (O.2.2 g hg).2.2.1]
    have fin := k M2 (HC.of (fun q _ _ => f3 q (by omega))) F2
    have af := ahead_f vc pw nc Ln 99 hg
    unfold frF at fin
    cases e : oF (oA P (sWW h (cF h (bkd P h) a (bkd P h).length)) l) g with
    | none =>
      rw [e] at af
      rw [if_neg (fun z => by obtain ⟨y, y1, y2⟩ := af.mp z; cases y1)] at fin
      exact br_t (show (99 : Int32) < nI 1000000 by decide) fin
    | some y =>
      rw [e] at af
      have yd := ah_fd vc pw nc Ln hg e
      obtain ⟨u, -, -, V⟩ := ov_all vc pw Ln l7
      by_cases c : y ≤ 99
      · rw [if_pos (af.mpr ⟨y, rfl, c⟩)] at fin
        exact br_f (nI_nlt (a := 99) (b := y) c (by decide)) fin
      · rw [if_neg (fun z => by obtain ⟨y', y1, y2⟩ := af.mp z; cases y1; exact c y2)] at fin
        exact br_t (nI_lt (a := 99) (by omega) (by omega)) fin
  have L : ∀ i, i ≤ (bkd P h).length → ∀ (f : Nat → Nat) M1, HR M1 150 (pN P) (sWW h f) → (∀ e, e < i → f (lo P h e) = if a / 2 ^ e % 2 = 1 then 3 else 0) → (∀ j, j < pN P → ¬ hW h j = 0 → f j = hW h j) → (∀ q, q < 150 → M1 q = M q) → R2 M1 (nI i) := by
    refine up_loop (fun i hi ih f M1 H1 f1 f2 F => ?_) (fun f M1 H1 f1 f2 F => ?_)
    · obtain ⟨l1, l2, l3⟩ := lo_n hi
      have g9 : M1 149 i = nI (lo P h i) := by rw [F 149 (by decide)]; exact e9 i _ l3
      have nx : ∀ x, (x = if a / 2 ^ i % 2 = 1 then 3 else 0) → R2 (mset M1 151 (lo P h i) (nI x)) (nI (i + 1)) := fun x ex => by
        refine ih (va_up f (lo P h i) x) _ (HR.sW (g := lo P h i) (x := x) H1) (fun e he => ?_) (fun j hj hw => ?_) (fun q hq => by rw [mset_ne (by omega)]; exact F q hq)
        · by_cases c : e = i
          · subst c; rw [up_s]; exact ex
          · obtain ⟨m1, m2, m3⟩ := lo_n (P := P) (h := h) (e := e) (by omega)
            rw [up_n (fun y => c ?_)]
            · exact f1 e (by omega)
            · rw [y] at m3
              rw [← idx_nd _ _ _ (bkd_nd P h) m3, idx_nd _ _ _ (bkd_nd P h) l3]
        · rw [up_n (fun y => hw (by rw [y]; exact l2))]; exact f2 j hj hw
      apply k2
      unfold B_Chance_isFreeWithout_2
      rw [F 148 (by decide), e4]
      refine br7_f hi m7 ⟨vin (by omega) (by decide), ?_⟩
      rw [cl (by omega), g9]
      refine s_has_t (n := pN P) (by rw [F 4 (by decide)]; exact hP.1) h7 l1 (br_f (by decide) ⟨vin (by omega) (by decide), ?_⟩)
      simp (disch := omega) only [cl, forall_eq, g9, nI_1]
      by_cases c : a / 2 ^ i % 2 = 1
      · exact brn_t ((tb_has ha (by omega)).mpr c) ⟨vin (by omega) (by decide), nx 3 (by rw [if_pos c])⟩
      · exact brn_f (fun z => c ((tb_has ha (by omega)).mp z)) ⟨vin (by omega) (by decide), nx 0 (by rw [if_neg c])⟩
    · apply k2
      unfold B_Chance_isFreeWithout_2
      rw [F 148 (by decide), e4]
      exact br7_e m7 (tail f M1 H1 f1 f2 F)
  unfold B_Chance_isFreeWithout_i
  simp only [forall_eq]
  refine L 0 (Nat.zero_le _) f0 M H (fun e he => absurd he (Nat.not_lt_zero _)) (fun j hj hw => ?_) (fun _ _ => rfl)
  rcases w0 j hj with y | y
  · exact absurd y.1 hw
  · exact y.2
end
section
variable {T : Nat} {s : ST} {M : Mem}
theorem s_weigh {g x : Nat} {post : Mem → Prop} (I : IX T s) (n : IN s) (R : RX s M) (hg : g < pN (xP s)) (hx : x ≤ 10) (k : ∀ M', RX s M' → M' 148 5 = nI (upA s g x / Nat.gcd (dnA s) (upA s g x)) → M' 148 6 = nI (dnA s / Nat.gcd (dnA s) (upA s g x)) → post M') : P_Chance_weigh M 18 (nI g) (nI x) post := by
  have pw := I.1
  have h7 := I.1.1
  have v := I.2.2.1.1
  have t20 := t20 I
  have m7 := bk7 pw (xH s)
  have m10 := p10 (bkd (xP s) (xH s)).length (by omega)
  have RF : ∀ M1, (∀ q, q < 148 → M1 q = M q) → RX s M1 := fun M1 f => rx_scr R (fun q hq => f q (by unfold scr at hq; omega))
  have Fx1 : ∀ f, frF (xP s) (xH s) g f ≤ 1 := fun f => by unfold frF; split <;> omega
  have upl : upA s g x ≤ dnA s := tT_le (xH s) hx (pN (xP s)) _ Fx1
  have eup : sm (fun a => cw x a (bkd (xP s) (xH s)).length * frF (xP s) (xH s) g (cF (xH s) (bkd (xP s) (xH s)) a (bkd (xP s) (xH s)).length)) (2 ^ (bkd (xP s) (xH s)).length) = upA s g x := c_sum (xH s) x (pN (xP s)) (frF (xP s) (xH s) g)
  intro R8 R73 R89 R149 k8 k73 k89 k149
  have fin : ∀ i, i ≤ (bkd (xP s) (xH s)).length → ∀ M1, (∀ q, q < 148 → M1 q = M q) → M1 148 4 = nI (bkd (xP s) (xH s)).length → M1 148 5 = nI (upA s g x) → M1 148 6 = nI (10 ^ i) → R149 M1 (nI i) := by
    refine up_loop (fun i hi ih M1 F e4 e5 e6 => ?_) (fun M1 F e4 e5 e6 => ?_)
    · apply k149
      unfold B_Chance_weigh_149
      rw [e4, e6]
      simp only [forall_eq, nI_1]
      refine br_f (nI_ge hi (by omega)) (ih _ (fun q hq => by rw [mset_ne (by omega)]; exact F q hq) (by rw [ms_j (by decide)]; exact e4) (by rw [ms_j (by decide)]; exact e5) ?_)
      rw [ms_s, show (10 : Int32) = nI 10 from rfl, pk_mul, Nat.pow_succ]
    · apply k149
      unfold B_Chance_weigh_149
      rw [e4]
      have upd : dnA s = 10 ^ (bkd (xP s) (xH s)).length := rfl
      refine br_t (nI_le (Nat.le_refl _) (by omega)) (s_lower e5 e6 (by omega) (by omega) (Nat.pow_pos (by decide)) (fun M2 a5 a6 f2 => k M2 (RF M2 (fun q hq => (f2 q (by omega)).trans (F q hq))) a5 a6))
  have L : ∀ d a M1 (f0 : Nat → Nat), a + d = 2 ^ (bkd (xP s) (xH s)).length → (∀ q, q < 148 → M1 q = M q) → M1 148 4 = nI (bkd (xP s) (xH s)).length → (∀ e g : Nat, (bkd (xP s) (xH s))[e]? = some g → M1 149 e = nI g) → M1 148 5 = nI (sm (fun a => cw x a (bkd (xP s) (xH s)).length * frF (xP s) (xH s) g (cF (xH s) (bkd (xP s) (xH s)) a (bkd (xP s) (xH s)).length)) a) → HR M1 150 (pN (xP s)) (sWW (xH s) f0) → WF (pN (xP s)) (xH s) f0 → R89 M1 (nI a) := by
    have p128 : 2 ^ (bkd (xP s) (xH s)).length ≤ 128 := Nat.pow_le_pow_right (by decide) m7
    intro d
    induction d with
    | zero =>
      intro a M1 f0 ea F e4 e9 e5 H w0
      have : a = 2 ^ (bkd (xP s) (xH s)).length := by omega
      subst this
      rw [eup] at e5
      apply k89
      unfold B_Chance_weigh_89
      rw [e4, shlb _ (by omega)]
      refine br_t (nI_le (Nat.le_refl _) (by omega)) ?_
      simp only [forall_eq]
      exact fin 0 (Nat.zero_le _) _ (fun q hq => by rw [mset_ne (by omega)]; exact F q hq) (by rw [ms_j (by decide)]; exact e4) (by rw [ms_j (by decide)]; exact e5) (ms_s _ _ _ _)
    | succ d ih =>
      intro a M1 f0 ea F e4 e9 e5 H w0
      have cl10 := cw_le hx a (bkd (xP s) (xH s)).length
      have es : sm (fun a => cw x a (bkd (xP s) (xH s)).length * frF (xP s) (xH s) g (cF (xH s) (bkd (xP s) (xH s)) a (bkd (xP s) (xH s)).length)) (a + 1) = sm (fun a => cw x a (bkd (xP s) (xH s)).length * frF (xP s) (xH s) g (cF (xH s) (bkd (xP s) (xH s)) a (bkd (xP s) (xH s)).length)) a + cw x a (bkd (xP s) (xH s)).length * frF (xP s) (xH s) g (cF (xH s) (bkd (xP s) (xH s)) a (bkd (xP s) (xH s)).length) := rfl
      apply k89
      unfold B_Chance_weigh_89
      rw [e4, shlb _ (by omega)]
      refine br_f (nI_ge (by omega) (by omega)) (s_weight e4 m7 (by omega) hx ?_)
      simp only [forall_eq, nI_1]
      by_cases z : cw x a (bkd (xP s) (xH s)).length = 0
      · rw [z, Nat.zero_mul, Nat.add_zero] at es
        rw [z]
        refine br_t (nI_le (a := 0) (b := 0) (Nat.le_refl _) (by decide)) (ih (a + 1) M1 f0 (by omega) F e4 e9 (by rw [es]; exact e5) H w0)
      · refine br_f (show ¬ nI _ ≤ nI 0 from nI_ge (by omega) (by omega)) (s_free (f0 := f0) (h := xH s) (RF M1 F).1 pw v n.1 t20 e4 e9 H w0 (by omega) hg (fun M2 H2 F2 => ?_))
        have G : ∀ q, q < 148 → M2 q = M q := fun q hq => (F2 q (by omega)).trans (F q hq)
        have wc := wf_cF (P := xP s) (h := xH s) a
        unfold frF at es ⊢
        by_cases c : hW (itp (xP s) 99 (sWW (xH s) (cF (xH s) (bkd (xP s) (xH s)) a (bkd (xP s) (xH s)).length))) g = 2
        · rw [if_pos c, Nat.mul_one] at es
          rw [if_pos c]
          refine br_f (by decide) (ih (a + 1) _ _ (by omega) (fun q hq => by rw [mset_ne (by omega)]; exact G q hq) (by rw [ms_j (by decide), F2 148 (by decide)]; exact e4) (by rw [mset_ne (by decide), F2 149 (by decide)]; exact e9) ?_ (H2.of (fun q _ _ => mset_ne (by omega))) wc)
          rw [ms_s, F2 148 (by decide), e5, nI_add]
          exact congrArg nI es.symm
        · rw [if_neg c, Nat.mul_zero, Nat.add_zero] at es
          rw [if_neg c]
          refine br_t rfl (ih (a + 1) M2 _ (by omega) G (by rw [F2 148 (by decide)]; exact e4) (by rw [F2 149 (by decide)]; exact e9) ?_ H2 wc)
          rw [F2 148 (by decide), e5]
          exact congrArg nI es.symm
  have L0 : ∀ i, i ≤ pN (xP s) → ∀ M1, (∀ q, q < 148 → M1 q = M q) → M1 148 4 = nI (bkI (xH s) i).length → (∀ e g : Nat, (bkI (xH s) i)[e]? = some g → M1 149 e = nI g) → (bkI (xH s) i).length ≤ i → R8 M1 (nI i) := by
    refine up_loop (fun i hi ih M1 F e4 e9 bl => ?_) (fun M1 F e4 e9 bl => ?_)
    · have bs := bkI_s (xH s) i
      obtain ⟨v1, -⟩ := v.2 i hi
      apply k8
      unfold B_Chance_weigh_8
      rw [(RF M1 F).1.1]
      simp (disch := omega) only [cl, forall_eq, nI_1, show M1 (18 + 1) i = nI (hW (xH s) i) from ((RF M1 F).2.1.2.2 i hi).1, e4, ms_k]
      refine br7_f hi h7 ⟨vin (by omega) (by decide), ?_⟩
      by_cases c : hW (xH s) i = 0
      · rw [if_pos c] at bs
        refine brn_t (by rw [c]; rfl) (br_f (nI_ge (b := 7) (by omega) (by decide)) ⟨vin (by omega) (by decide), ih _ (fun q hq => by rw [mset_ne (by omega), mset_ne (by omega)]; exact F q hq) ?_ (fun e y he => ?_) ?_⟩)
        · rw [ms_s, bs, List.length_append, List.length_singleton]
        · rw [mset_ne (by decide)]
          rw [bs] at he
          by_cases z : e < (bkI (xH s) i).length
          · rw [List.getElem?_append_left z] at he
            rw [ms_j (by omega)]; exact e9 e y he
          · have yl := (List.getElem?_eq_some_iff.mp he).1
            rw [List.length_append, List.length_singleton] at yl
            have : e = (bkI (xH s) i).length := by omega
            subst this
            rw [List.getElem?_append_right (Nat.le_refl _), Nat.sub_self] at he
            cases he
            exact ms_s _ _ _ _
        · rw [bs, List.length_append, List.length_singleton]; omega
      · rw [if_neg c] at bs
        rw [bs] at ih
        exact brn_f (fun z => c (nI_inj (b := 0) (by omega) (by decide) z)) (ih M1 F e4 e9 (by omega))
    · apply k8
      unfold B_Chance_weigh_8
      rw [(RF M1 F).1.1]
      refine br7_e h7 ?_
      apply k73
      unfold B_Chance_weigh_73
      refine s_copy h7 (Or.inl (by decide)) (RF M1 F).2.1 (fun M2 H2 f2 => ?_)
      simp only [forall_eq]
      refine L _ 0 _ (hW (xH s)) (Nat.zero_add _) (fun q hq => by rw [mset_ne (by omega), f2 q (by omega)]; exact F q hq) (by rw [ms_j (by decide), f2 148 (by omega)]; exact e4) (by rw [mset_ne (by decide), f2 149 (by omega)]; exact e9) (ms_s _ _ _ _) (H2.of (fun q _ _ => mset_ne (by omega))) (fun j hj => ?_)
      by_cases z : hW (xH s) j = 0
      · exact Or.inl ⟨z, Or.inl z⟩
      · exact Or.inr ⟨z, rfl⟩
  unfold B_Chance_weigh_i
  simp only [forall_eq]
  exact L0 0 (Nat.zero_le _) _ (fun q hq => by rw [mset_ne (by omega)]) (ms_s _ _ _ _) (fun e y he => (Option.some_ne_none y he.symm).elim) (Nat.le_refl _)
theorem x_absent {p q w : Int32} {post : Int32 → Mem → Prop} (I : IX T s) (n : IN s) (R : RX s M) (k : ∀ M', RX (fAbs s p q w).2 M' → post (fAbs s p q w).1 M') : P_NB_absent M p q w post := by
  have h7 := I.1.1
  unfold P_NB_absent B_NB_absent_i
  unfold fAbs at k
  refine s_has R.1.1 h7 (fun g hg e => br_f (by decide) ?_) (fun e => br_t rfl ?_)
  · subst e
    rw [gi_some hg (by omega)] at k
    rcases rg_cases 0 10 (by decide) q with ⟨e, c⟩ | ⟨x, e, c1, c2', rfl⟩
    · rw [e] at k
      have k := k M R
      refine br_c (fun _ => k) (fun d => br_c (fun _ => k) (fun d2 => ?_))
      rw [i_lt] at d d2
      have d : ¬ q.toInt < 0 := d
      have d2 : ¬ (10 : Int) < q.toInt := d2
      omega
    · rw [e] at k
      refine br_f (nI_pos (by omega)) (br_f (nI_nlt (a := 10) (b := x) c2' (by decide)) ?_)
      rcases rg_cases 0 1 (by decide) w with ⟨e', c⟩ | ⟨u, e', c3, c4, rfl⟩
      · rw [e'] at k
        have k := k M R
        refine br_c (fun _ => k) (fun d => br_c (fun d2 => ?_) (fun _ => k))
        rw [i_lt] at d
        rw [i_le] at d2
        have d : ¬ w.toInt < 0 := d
        have d2 : w.toInt ≤ 1 := d2
        omega
      · rw [e'] at k
        simp only at k
        refine br_f (nI_pos (by omega)) (br_t (nI_le (b := 1) c4 (by decide)) (s_weigh I n R hg c2' (fun M1 R1 a5 a6 => ?_)))
        rw [a5, a6]
        by_cases z : u = 0
        · rw [if_pos z] at k
          subst z
          exact ⟨fun y => absurd rfl y, fun _ => k M1 R1⟩
        · rw [if_neg z] at k
          exact ⟨fun _ => k M1 R1, fun y => absurd (nI_inj (b := 0) (by omega) (by decide) y) z⟩
  · rw [gi_none (by omega) e] at k
    exact k M R
end
