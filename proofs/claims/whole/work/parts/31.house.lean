theorem s_has {M : Mem} {a n : Nat} {p : Int32} {post : Int32 → Mem → Prop} (hn : M a 6 = nI n) (h7 : n ≤ 7) (h1 : ∀ g, g < n → p = nI g → post 1 M) (h0 : (∀ g, g < n → ¬ p = nI g) → post 0 M) : P_Plan_has M a p post := by
  unfold P_Plan_has B_Plan_has_i
  rw [hn]
  refine br_c (fun c => h0 (fun g hg e => ?_)) (fun c => ?_)
  · rw [e] at c; exact nI_pos (by omega) c
  · obtain ⟨j, hj, rfl⟩ := nI_of c
    refine br_c (fun d => h0 (fun g hg e => ?_)) (fun d => ?_)
    · have := nI_inj hj (by omega) e
      subst this
      exact nI_ge hg (by omega) d
    · have hjn : j < n := by
        rcases Nat.lt_or_ge j n with q | q
        · exact q
        · exact absurd (nI_le q hj) d
      exact br_f (nI_ge (b := 7) (by omega) (by decide)) (h1 j hjn rfl)
theorem s_has_t {M : Mem} {a n g : Nat} {post : Int32 → Mem → Prop} (hn : M a 6 = nI n) (h7 : n ≤ 7) (hg : g < n) (k : post 1 M) : P_Plan_has M a (nI g) post :=
  s_has hn h7 (fun _ _ _ => k) (fun q => absurd rfl (q g hg))
theorem s_has_o {M : Mem} {a n : Nat} {o : Option Nat} {post : Int32 → Mem → Prop} (hn : M a 6 = nI n) (h7 : n ≤ 7) (ho : ∀ c, o = some c → c < n) (k0 : o = none → post 0 M) (k1 : ∀ c, o = some c → post 1 M) : P_Plan_has M a (oI o) post := by
  cases o with
  | none =>
    refine s_has hn h7 (fun g hg e => absurd e.symm (nI_ne4 (by omega))) (fun _ => k0 rfl)
  | some c => exact s_has_t hn h7 (ho c rfl) (k1 c rfl)
theorem half_nI {d : Nat} (h : d < 2 ^ 31) : nI d / 2 = nI (d / 2) := pk_div (d := 2) h (by decide) (by decide)
theorem s_brings {M : Mem} {a g : Nat} {P : PT} {h : HT} {post : Int32 → Mem → Prop} (hP : PR M 4 P) (pw : PW P) (hh : HR M a (pN P) h) (hg : g < pN P) (k : post (nI (brg P h g)) M) : P_House_brings M a (nI g) post := by
  have h7 := pw.1
  have h31 : g < 2 ^ 31 := by omega
  obtain ⟨e1, e2, -, -⟩ := hP.2 g hg
  obtain ⟨-, -, e3, -⟩ := hh.2.2 g hg
  obtain ⟨q1, ⟨q2, q3⟩, -⟩ := pw.2 g hg
  unfold P_House_brings B_House_brings_i
  refine s_has_t hP.1 h7 hg ?_
  simp only [cl h31, forall_eq]
  rw [show M 7 g = nI (pD P g) from e2, show M 5 g = nI (pK P g) from e1, e3]
  refine brn_f (by decide) ⟨vin (by omega) (by decide), vin (by omega) (by decide), ?_⟩
  unfold brg at k
  by_cases c1 : pK P g = 1
  · rw [if_pos c1] at k
    refine brn_t (by rw [c1]; rfl) ⟨vin (by omega) (by decide), ?_⟩
    rw [l2, pk_mul, nI_add]
    exact k
  · rw [if_neg c1] at k
    refine brn_f (fun e => c1 (nI_inj (b := 1) (by omega) (by decide) e)) ⟨vin (by omega) (by decide), ?_⟩
    by_cases c3 : pK P g = 3
    · rw [if_pos c3] at k
      refine brn_t (by rw [c3]; rfl) ⟨vin (by omega) (by decide), ?_⟩
      rw [half_nI (by omega), nI_add]
      exact k
    · rw [if_neg c3] at k
      refine brn_f (fun e => c3 (nI_inj (b := 3) (by omega) (by decide) e)) ⟨vin (by omega) (by decide), ?_⟩
      rw [nI_add]
      exact k
theorem s_comes {M : Mem} {a g : Nat} {P : PT} {h : HT} {post : Mem → Prop} (hP : PR M 4 P) (pw : PW P) (hh : HR M a (pN P) h) (ha : 11 ≤ a) (hw : ∀ c, hC h = some c → c < pN P) (hg : g < pN P) (k : ∀ M', HR M' a (pN P) (cm P h g) → Fr a M M' → post M') : P_House_comes M a (nI g) post := by
  have h7 := pw.1
  have h31 : g < 2 ^ 31 := by omega
  intro R68 k68
  have key : ∀ M1, HR M1 a (pN P) (cmC P h g) → Fr a M M1 → R68 M1 := by
    intro M1 q f
    apply k68
    unfold B_House_comes_68
    have e1 := ((hP.fr f (Or.inl (by omega))).2 g hg).1
    have q1 := (pw.2 g hg).1
    simp only [cl h31, forall_eq]
    rw [show M1 5 g = nI (pK P g) from e1]
    refine ⟨vin (by omega) (by decide), ?_⟩
    by_cases c2 : pK P g = 2
    · refine brn_t (by rw [c2]; rfl) ⟨vin (by omega) (by decide), ?_⟩
      refine k _ ?_ (f.set (by omega) (by omega))
      unfold cm
      rw [if_pos c2]
      exact q.sW
    · refine brn_f (fun e => c2 (nI_inj (b := 2) (by omega) (by decide) e)) ⟨vin (by omega) (by decide), ?_⟩
      refine k _ ?_ ((f.set (by omega) (by omega)).set (by omega) (by omega))
      unfold cm
      rw [if_neg c2]
      exact HR.sC (x := some g) (HR.sW (x := 1) q)
  unfold B_House_comes_i
  refine s_has_t hP.1 h7 hg (brn_f (by decide) ?_)
  rw [hh.2.1]
  refine s_has_o hP.1 h7 hw (fun e => ?_) (fun c e => ?_)
  · refine br_t rfl (key M ?_ Fr.rf)
    unfold cmC; rw [e]; exact hh
  · have hc := hw c e
    have hc31 : c < 2 ^ 31 := by omega
    have e8 : M a 8 = nI c := by rw [hh.2.1, e]; rfl
    refine br_f (by decide) ?_
    rw [e8]
    refine ⟨vin (by omega) (by decide), s_brings hP pw hh hg ⟨vin (by omega) (by decide), ?_⟩⟩
    simp only [cl h31, cl hc31, forall_eq]
    have e9 : ∀ v, mset M (a + 4) c v a 8 = nI c := fun v => by rw [ms_n (Or.inl (by omega))]; exact e8
    have e10 : ∀ v v', mset (mset M (a + 4) c v) (a + 6) c v' a 8 = nI c := fun v v' => by rw [ms_n (Or.inl (by omega))]; exact e9 v
    simp only [e9, e10, cl hc31]
    refine ⟨vin (by omega) (by decide), vin (by omega) (by decide), vin (by omega) (by decide), ?_⟩
    obtain ⟨-, -, -, k4, -, k6, -⟩ := hh.2.2 c hc
    refine key _ ?_ (((Fr.rf.set (by omega) (by omega)).set (by omega) (by omega)).set (by omega) (by omega))
    unfold cmC
    rw [e]
    rw [ms_n (M := M) (k := a + 4) (q := a + 6) (Or.inl (by omega)), k4, k6, nI_add, shlb g (by omega), or_nI]
    exact HR.sB (x := some c) (HR.sS (HR.sD hh))

theorem tb_has {m j : Nat} (hm : m < 2 ^ 31) (hj : j < 7) : ((nI m >>> (nI j &&& 31)) &&& 1 = 1) ↔ m / 2 ^ j % 2 = 1 := by
  rw [shrb hm (by omega)]
  exact ⟨fun e => nI_inj (b := 1) (by omega) (by decide) e, fun e => by rw [e]; rfl⟩
/-- a loop that goes up -/
theorem up_loop {n : Nat} {Q : Nat → Prop} (hs : ∀ i, i < n → Q (i + 1) → Q i) (hn : Q n) : ∀ i, i ≤ n → Q i := by
  have : ∀ d i, i + d = n → Q i := by
    intro d
    induction d with
    | zero => intro i e; rw [show i = n by omega]; exact hn
    | succ d ih => intro i e; exact hs i (by omega) (ih (i + 1) (by omega))
  intro i hi
  exact this (n - i) i (by omega)
theorem sG_sG (h : HT) (g : Nat) (x y : Int32) : sG (sG h g x) g y = sG h g y := by
  unfold sG
  refine congrArg (fun f => (h.1, h.2.1, h.2.2.1, h.2.2.2.1, h.2.2.2.2.1, h.2.2.2.2.2.1, h.2.2.2.2.2.2.1, h.2.2.2.2.2.2.2.1, f)) ?_
  funext j
  unfold va_up
  by_cases e : j = g
  · rw [if_pos e, if_pos e]
  · rw [if_neg e, if_neg e]; exact if_neg e
theorem hG_s (h : HT) (g : Nat) (x : Int32) : hG (sG h g x) g = x := up_s _ _ _
theorem s_setFree {M : Mem} {a g : Nat} {P : PT} {h : HT} {post : Mem → Prop} (hP : PR M 4 P) (pw : PW P) (hh : HR M a (pN P) h) (ha : 11 ≤ a) (hb : ∀ c, hB h g = some c → c < pN P) (hs : hS h g < 2 ^ 31) (hg : g < pN P) (k : ∀ M', HR M' a (pN P) (fr P h g) → Fr a M M' → post M') : P_House_setFree M a (nI g) post := by
  have h7 := pw.1
  have h31 : g < 2 ^ 31 := by omega
  intro R21 R76 k21 k76
  have tail : ∀ M1, HR M1 a (pN P) (sG (sW h g 2) g (tps P (hS h g) (pN P) (hG h g))) → Fr a M M1 → R76 M1 := by
    intro M1 q f
    apply k76
    unfold B_House_setFree_76
    have hP1 := hP.fr f (Or.inl (by omega))
    simp only [cl h31, forall_eq]
    obtain ⟨-, -, -, -, k5, -, k7⟩ := q.2.2 g hg
    have k5 : M1 (a + 5) g = oI (hB h g) := k5
    refine ⟨vin (by omega) (by decide), ?_⟩
    rw [k5]
    refine s_has_o hP1.1 h7 hb (fun e => ?_) (fun c e => ?_)
    · refine br_t rfl (k _ ?_ f)
      unfold fr; rw [e]; exact q
    · have hc := hb c e
      have hc31 : c < 2 ^ 31 := by omega
      refine br_f (by decide) ⟨vin (by omega) (by decide), vin (by omega) (by decide), vin (by omega) (by decide), ?_⟩
      rw [e]
      refine ⟨vin (n := c) (by omega) (by decide), vin (n := c) (by omega) (by decide), ?_⟩
      show post (mset (mset M1 (a + 7) g _) (a + 7) (nI c).toNatClampNeg (mset M1 (a + 7) g _ (a + 7) (nI c).toNatClampNeg + _))
      rw [cl hc31]
      refine k _ ?_ ((f.set (by omega) (by omega)).set (by omega) (by omega))
      have q1 := q.sG (g := g) (x := M1 (a + 7) g - M1 (a + 7) g / 2)
      have e7 := (q1.2.2 c hc).2.2.2.2.2.2
      have q2 := q1.sG (g := c) (x := mset M1 (a + 7) g (M1 (a + 7) g - M1 (a + 7) g / 2) (a + 7) c + M1 (a + 7) g / 2)
      rw [e7, k7] at q2
      unfold fr
      rw [e]
      rw [e7, k7]
      exact q2
  have loop : ∀ i, i ≤ pN P → ∀ M1, HR M1 a (pN P) (sG (sW h g 2) g (tps P (hS h g) i (hG h g))) → Fr a M M1 → R21 M1 (nI i) := by
    refine up_loop (fun i hi ih M1 q f => ?_) (fun M1 q f => ?_)
    · apply k21
      unfold B_House_setFree_21
      have hP1 := hP.fr f (Or.inl (by omega))
      have hi31 : i < 2 ^ 31 := by omega
      simp only [cl h31, cl hi31, forall_eq]
      rw [show M1 4 6 = nI (pN P) from hP1.1]
      refine br7_f hi h7 ⟨vin (by omega) (by decide), ?_⟩
      obtain ⟨-, -, -, -, -, k6, k7⟩ := q.2.2 g hg
      have k6 : M1 (a + 6) g = nI (hS h g) := k6
      rw [k6, k7, show M1 8 i = nI (pT P i) from (hP1.2 i hi).2.2.1, hG_s, nI_1]
      by_cases c : hS h g / 2 ^ i % 2 = 1
      · refine brn_t ((tb_has hs (by omega)).mpr c) ⟨vin (by omega) (by decide), vin (by omega) (by decide), vin (by omega) (by decide), ?_⟩
        refine ih _ ?_ (f.set (by omega) (by omega))
        have q2 := q.sG (g := g) (x := tps P (hS h g) i (hG h g) + nI (pT P i))
        rw [sG_sG] at q2
        rw [tps, if_pos c]
        exact q2
      · refine brn_f (fun e => c ((tb_has hs (by omega)).mp e)) ?_
        refine ih _ ?_ f
        rw [tps, if_neg c]
        exact q
    · apply k21
      unfold B_House_setFree_21
      have hP1 := hP.fr f (Or.inl (by omega))
      rw [show M1 4 6 = nI (pN P) from hP1.1]
      exact br7_t h7 (tail M1 q f) (tail M1 q f)
  unfold B_House_setFree_i
  refine s_has_t hP.1 h7 hg (brn_f (by decide) ?_)
  simp only [cl h31, forall_eq]
  refine ⟨vin (by omega) (by decide), loop 0 (Nat.zero_le _) _ ?_ (Fr.rf.set (by omega) (by omega))⟩
  have q := HR.sW (g := g) (x := 2) hh
  have e : sG (sW h g 2) g (tps P (hS h g) 0 (hG h g)) = sW h g 2 := by
    unfold tps sG sW
    refine congrArg (fun f => (h.1, h.2.1, va_up h.2.2.1 g 2, h.2.2.2.1, h.2.2.2.2.1, h.2.2.2.2.2.1, h.2.2.2.2.2.2.1, h.2.2.2.2.2.2.2.1, f)) ?_
    funext j
    unfold va_up
    by_cases e : j = g
    · rw [if_pos e, e]; rfl
    · rw [if_neg e]
  rw [e]
  exact q

theorem hW_cm (P : PT) (h : HT) (g j : Nat) : hW (cm P h g) j = if j = g then (if pK P g = 2 then 2 else 1) else hW h j := by
  have e : hW (cmC P h g) = hW h := by unfold cmC; cases hC h <;> rfl
  unfold cm
  by_cases c : pK P g = 2
  · rw [if_pos c]; show va_up (hW (cmC P h g)) g 2 j = _; unfold va_up; rw [e, if_pos c]
  · rw [if_neg c]; show va_up (hW (cmC P h g)) g 1 j = _; unfold va_up; rw [e, if_neg c]
theorem hU_cm (P : PT) (h : HT) (g : Nat) : hU (cm P h g) = hU h := by
  have e : hU (cmC P h g) = hU h := by unfold cmC; cases hC h <;> rfl
  unfold cm; split <;> exact e
theorem hR_cm (P : PT) (h : HT) (g : Nat) : hR (cm P h g) = hR h := by
  have e : hR (cmC P h g) = hR h := by unfold cmC; cases hC h <;> rfl
  unfold cm; split <;> exact e
theorem hT_cm (P : PT) (h : HT) (g : Nat) : hT (cm P h g) = hT h := by
  have e : hT (cmC P h g) = hT h := by unfold cmC; cases hC h <;> rfl
  unfold cm; split <;> exact e
theorem hC_cm (P : PT) (h : HT) (g : Nat) : hC (cm P h g) = if pK P g = 2 then hC h else some g := by
  have e : hC (cmC P h g) = hC h := by
    unfold cmC
    cases c : hC h with
    | none => exact c
    | some q => exact c
  unfold cm
  by_cases c : pK P g = 2
  · rw [if_pos c, if_pos c]; exact e
  · rw [if_neg c, if_neg c]; rfl
theorem hD_cm (P : PT) (h : HT) (g j : Nat) : hD (cm P h g) j = if hC h = some j then hD h j + brg P h g else hD h j := by
  have e : hD (cm P h g) = hD (cmC P h g) := by unfold cm; split <;> rfl
  rw [e]
  unfold cmC
  cases c : hC h with
  | none => rw [if_neg (by intro z; cases z)]
  | some q =>
    show va_up (hD h) q (hD h q + brg P h g) j = _
    by_cases z : j = q
    · subst z; rw [up_s, if_pos rfl]
    · rw [up_n z, if_neg (fun w => z (Option.some.inj w).symm)]
theorem hB_cm (P : PT) (h : HT) (g j : Nat) : hB (cm P h g) j = match hC h with
    | none => hB h j
    | some c => if j = g then some c else hB h j := by
  have e : hB (cm P h g) = hB (cmC P h g) := by unfold cm; split <;> rfl
  rw [e]
  unfold cmC
  cases c : hC h with
  | none => rfl
  | some q => rfl
theorem hS_cm (P : PT) (h : HT) (g j : Nat) : hS (cm P h g) j = if hC h = some j then hS h j ||| 2 ^ g else hS h j := by
  have e : hS (cm P h g) = hS (cmC P h g) := by unfold cm; split <;> rfl
  rw [e]
  unfold cmC
  cases c : hC h with
  | none => rw [if_neg (by intro z; cases z)]
  | some q =>
    show va_up (hS h) q (hS h q ||| 2 ^ g) j = _
    by_cases z : j = q
    · subst z; rw [up_s, if_pos rfl]
    · rw [up_n z, if_neg (fun w => z (Option.some.inj w).symm)]
theorem hG_cm (P : PT) (h : HT) (g : Nat) : hG (cm P h g) = hG h := by
  have e : hG (cmC P h g) = hG h := by unfold cmC; cases hC h <;> rfl
  unfold cm; split <;> exact e
theorem hX_fr (P : PT) (h : HT) (g : Nat) : hT (fr P h g) = hT h ∧ hC (fr P h g) = hC h ∧ hW (fr P h g) = va_up (hW h) g 2 ∧ hU (fr P h g) = hU h ∧ hR (fr P h g) = hR h ∧ hD (fr P h g) = hD h ∧ hB (fr P h g) = hB h ∧ hS (fr P h g) = hS h := by
  unfold fr
  cases hB h g <;> exact ⟨rfl, rfl, rfl, rfl, rfl, rfl, rfl, rfl⟩
/-- what holds in the middle of an hour too: of the least kind that the machines need -/
def HV (n : Nat) (h : HT) : Prop := hT h < 2 ^ 30 ∧ (∀ c, hC h = some c → c < n) ∧ ∀ g, g < n → hW h g ≤ 3 ∧ hU h g ≤ 40 ∧ hD h g < 2 ^ 30 ∧ (∀ c, hB h g = some c → c < n) ∧ hS h g < 2 ^ 7
theorem or_lt7 {x g : Nat} (hx : x < 2 ^ 7) (hg : g < 7) : x ||| 2 ^ g < 2 ^ 7 := Nat.or_lt_two_pow hx (Nat.pow_lt_pow_right (by decide) hg)
