def isB : Bool → Int32
  | true => 1
  | false => 0
theorem nB (b : Bool) : narrow .boolean (.int (isB b)) = .int (isB b) := by cases b <;> rfl
theorem c53 (g : Nat) : 53 + nI g = nI (53 + g) := nI_add 53 g
theorem c60 (g : Nat) : 60 + nI g = nI (60 + g) := nI_add 60 g
theorem c88 (g : Nat) : 88 + nI g = nI (88 + g) := nI_add 88 g
theorem dn_step {P : PT} {d k : Nat} {h h0 : HT} (e : dnL P (d + 1) (itp P k h) + k = dn P h0) : (isDnB P (itp P k h) (pN P) = true → k = dn P h0) ∧ (¬ isDnB P (itp P k h) (pN P) = true → dnL P d (itp P (k + 1) h) + (k + 1) = dn P h0) := by
  unfold dnL at e
  constructor
  · intro z; rw [if_pos z] at e; omega
  · intro z; rw [if_neg z] at e; show dnL P d (pss P (itp P k h)) + (k + 1) = _; omega
theorem fr_step {P : PT} {g d k x : Nat} {h : HT} (e : frL P g (d + 1) (itp P k h) + k = x) : (hW (itp P k h) g = 2 → k = x) ∧ (¬ hW (itp P k h) g = 2 → frL P g d (itp P (k + 1) h) + (k + 1) = x) := by
  unfold frL at e
  constructor
  · intro z; rw [if_pos z] at e; omega
  · intro z; rw [if_neg z] at e; show frL P g d (pss P (itp P k h)) + (k + 1) = _; omega
theorem hR_itp (P : PT) (h : HT) : ∀ k, hR (itp P k h) = hR h
  | 0 => rfl
  | k + 1 => by
    show hR (ps3 P (pN P) (ps2 P (pN P) (ps1 P (pN P) (itp P k h)))) = _
    rw [hR_ps3, hR_ps2, hR_ps1]; exact hR_itp P h k
theorem smS_R {P : PT} {h h' : HT} (e : hR h' = hR h) (m : Nat) : ∀ i, smS P h' m i = smS P h m i
  | 0 => rfl
  | i + 1 => by unfold smS; rw [smS_R e m i, brg_R e]
/-- the model: far is a million -/
def dI (x : Nat) : Int32 := if x ≤ 99 then nI x else 1000000
section
variable {T : Nat} {s : ST} {N : Mem} {P : PT} {h : HT}
theorem m_isDone {post : Int32 → Mem → Prop} (hP : PM N P) (pw : PW P) (hh : MR N 51 (pN P) h) (v : GV P h) (k : post (isB (isDnB P h (pN P))) N) : P_MD_isDone N 51 post := by
  have h7 := pw.1
  intro R4 k4
  have L : ∀ i, i ≤ pN P → R4 N (isB (isDnB P h i)) (nI i) := by
    refine up_loop (fun i hi ih => ?_) ?_
    · apply k4
      unfold B_MD_isDone_4
      rw [hP.1]
      refine br_f (nI_ge hi (by omega)) ?_
      rw [show ((51 : Int32) + 2) + nI i = nI (53 + i) from nI_add 53 i, show (51 : Int32) + 1 = nI 52 from rfl]
      simp (disch := omega) only [cl, nI_1, forall_eq]
      have w : N 1 (53 + i) = nI (hW h i) := (hh.2.2 i hi).1
      have w3 := (v.2 i hi).1
      have cp : N 1 52 = oI (hC h) := hh.2.1
      rw [w, cp]
      have e : isDnB P h (i + 1) = (isDnB P h i && (decide (¬ hW h i = 0) && (decide (¬ hW h i = 1) || decide (hC h = some i)))) := rfl
      cases ei : isDnB P h i with
      | false =>
        rw [ei, Bool.false_and] at e
        rw [e] at ih
        exact br_t rfl ih
      | true =>
        rw [ei, Bool.true_and] at e
        refine br_f (by decide) ⟨vin (by omega) (by decide), ?_⟩
        by_cases c0 : hW h i = 0
        · rw [decide_eq_false (fun z => z c0), Bool.false_and] at e
          rw [e] at ih
          exact br_t (by rw [c0]; rfl) ih
        · rw [decide_eq_true c0, Bool.true_and] at e
          refine br_f (fun z => c0 (nI_inj (b := 0) (by omega) (by decide) z)) ⟨vin (by omega) (by decide), ?_⟩
          by_cases c1 : hW h i = 1
          · rw [decide_eq_false (fun z => z c1), Bool.false_or] at e
            refine brn_t (by rw [c1]; rfl) ⟨vin (n := 52) (by omega) (by decide), ?_⟩
            by_cases cc : hC h = some i
            · rw [decide_eq_true cc] at e
              rw [e] at ih
              exact brn_t (by rw [cc]; rfl) ih
            · rw [decide_eq_false cc] at e
              rw [e] at ih
              refine brn_f (fun z => ?_) ih
              cases ec : hC h with
              | none => rw [ec] at z; exact nI_ne4 (by omega) z.symm
              | some c => rw [ec] at z; exact cc (by have := (v.1 c ec).1; rw [ec, nI_inj (by omega) (by omega) z])
          · rw [decide_eq_true c1, Bool.true_or] at e
            rw [e] at ih
            exact brn_f (fun z => c1 (nI_inj (b := 1) (by omega) (by decide) z)) ih
    · apply k4
      unfold B_MD_isDone_4
      rw [hP.1]
      exact br_t (nI_le (Nat.le_refl _) (by omega)) ⟨nB _, k⟩
  unfold B_MD_isDone_i
  simp only [forall_eq]
  exact L 0 (Nat.zero_le _)
theorem m_doneBy {post : Int32 → Mem → Prop} (hP : PM N P) (pw : PW P) (hh : MR N 51 (pN P) h) (v : GV P h) (ht : hT h < 2 ^ 20) (k : ∀ N', FM 51 N N' → post (dI (dn P h)) N') : P_MD_doneBy N post := by
  intro R2 k2
  have L : ∀ d j N1, j + d = 100 → dnL P d (itp P j h) + j = dn P h → MR N1 51 (pN P) (itp P j h) → FM 51 N N1 → R2 N1 (nI j) := by
    intro d
    induction d with
    | zero =>
      intro j N1 ej e H f
      apply k2
      unfold B_MD_doneBy_2
      have e : 0 + j = dn P h := e
      refine br_t (nI_lt (a := 99) (by omega) (by omega)) ?_
      have := k N1 f
      unfold dI at this
      rw [if_neg (by omega)] at this
      exact this
    | succ d ih =>
      intro j N1 ej e H f
      obtain ⟨e1, e2⟩ := dn_step e
      have vj := gv_itp v pw j
      apply k2
      unfold B_MD_doneBy_2
      refine br_f (nI_nlt (a := 99) (b := j) (by omega) (by decide)) (m_isDone (hP.fr f) pw H vj ?_)
      cases c : isDnB P (itp P j h) (pN P) with
      | true =>
        refine br_f (by decide) ?_
        have := k N1 f
        have e1 := e1 c
        unfold dI at this
        rw [← e1, if_pos (by omega)] at this
        exact this
      | false =>
        refine br_t rfl (m_hour (r := 51) (hP.fr f) pw H vj (by decide) (by rw [hT_itp]; omega) (fun N2 H2 f2 => ?_))
        rw [nI_1]
        simp only [forall_eq]
        exact ih (j + 1) N2 (by omega) (e2 (by rw [c]; decide)) H2 (f.tr f2)
  unfold B_MD_doneBy_i
  simp only [forall_eq]
  exact L 100 0 N rfl rfl hh FM.rf
theorem m_taskOf {g : Nat} {post : Int32 → Mem → Prop} (hP : PM N P) (pw : PW P) (hh : MR N 51 (pN P) h) (v : GV P h) (ht : hT h < 2 ^ 20) (hg : g < pN P) (k : ∀ N', FM 51 N N' → post (nI (tsk P h g)) N') : P_MD_taskOf N (nI g) post := by
  have h7 := pw.1
  intro R0 R25 k0 k25
  have L : ∀ d j N1, (hT h + j) + d = 41 ∨ (d = 0 ∧ 41 ≤ hT h ∧ j = 0) → MR N1 51 (pN P) (itp P j h) → FM 51 N N1 → R0 N1 := by
    intro d
    induction d with
    | zero =>
      intro j N1 ej H f
      have ejj : j = 41 - hT h := by omega
      have vj := gv_itp v pw j
      apply k0
      unfold B_MD_taskOf_0
      have e1 : N1 1 ((51 : Int32)).toNatClampNeg = nI (hT h + j) := by rw [← hT_itp P h j]; exact H.1
      rw [e1]
      refine ⟨vin (n := 51) (by decide) (by decide), br_t (nI_lt (a := 40) (by omega) (by omega)) ?_⟩
      simp only [forall_eq]
      have S : ∀ i, i ≤ pN P → R25 N1 (nI (smS P h (hS (itp P j h) g) i)) (nI i) := by
        refine up_loop (fun i hi ih => ?_) ?_
        · apply k25
          unfold B_MD_taskOf_25
          rw [(hP.fr f).1]
          refine br_f (nI_ge hi (by omega)) ?_
          rw [c88]
          simp (disch := omega) only [cl, nI_1, forall_eq]
          rw [show N1 1 (88 + g) = nI (hS (itp P j h) g) from (H.2.2 g hg).2.2.2.2.2.1]
          have e : smS P h (hS (itp P j h) g) (i + 1) = smS P h (hS (itp P j h) g) i + (if hS (itp P j h) g / 2 ^ i % 2 = 1 then brg P h i else 0) := rfl
          refine ⟨vin (by omega) (by decide), m_has (gv_b vj pw hg).2.1 (by omega) (fun c => br_f (by decide) (m_brings (r := 51) (hP.fr f) pw H (by decide) hi ?_)) (fun c => br_t rfl ?_)⟩
          · rw [if_pos c] at e
            rw [e] at ih
            rw [brg_R (hR_itp P h j), nI_add]
            exact ih
          · rw [if_neg c] at e
            rw [e] at ih
            rw [show nI (smS P h (hS (itp P j h) g) i) + 0 = nI (smS P h (hS (itp P j h) g) i + 0) from nI_add _ 0]
            exact ih
        · apply k25
          unfold B_MD_taskOf_25
          rw [(hP.fr f).1]
          refine br_t (nI_le (Nat.le_refl _) (by omega)) ?_
          have := k N1 f
          unfold tsk at this
          rw [← ejj] at this
          exact this
      exact S 0 (Nat.zero_le _)
    | succ d ih =>
      intro j N1 ej H f
      apply k0
      unfold B_MD_taskOf_0
      have e1 : N1 1 ((51 : Int32)).toNatClampNeg = nI (hT h + j) := by rw [← hT_itp P h j]; exact H.1
      rw [e1]
      refine ⟨vin (n := 51) (by decide) (by decide), br_f (nI_nlt (a := 40) (by omega) (by decide)) ?_⟩
      exact m_hour (r := 51) (hP.fr f) pw H (gv_itp v pw j) (by decide) (by rw [hT_itp]; omega) (fun N2 H2 f2 => ih (j + 1) N2 (by omega) H2 (f.tr f2))
  unfold B_MD_taskOf_i
  exact L (41 - hT h) 0 N (by omega) hh FM.rf
theorem rm_fm {N' : Mem} (I : IX T s) (R : RM s N) (f : FM 51 N N') : RM s N' := rm_km R I.1.1 f.km I.2.2.2.2.2.1 I.2.2.2.2.2.2.1
theorem y_done {post : Int32 → Mem → Prop} (I : IX T s) (R : RM s N) (k : ∀ N', RM (fDone s).2 N' → post (fDone s).1 N') : P_MD_done N post := by
  unfold P_MD_done B_MD_done_i
  refine m_tries I R (fun N1 R1 H f e => m_doneBy R1.1 I.1 H I.2.2.1.1 (t20 I) (fun N2 f2 => ?_))
  simp only [forall_eq]
  have := k N2 (rm_fm I R1 f2)
  unfold fDone wh at this
  unfold dI
  by_cases c : dn (xP s) (xH s) ≤ 99
  · rw [if_pos c] at this ⊢
    exact brn_f (fun z => absurd (nI_inj (b := 1000000) (by omega) (by decide) z) (by omega)) this
  · rw [if_neg c] at this ⊢
    exact brn_t rfl this
theorem y_freed {p : Int32} {post : Int32 → Mem → Prop} (I : IX T s) (R : RM s N) (k : ∀ N', RM (fFreed s p).2 N' → post (fFreed s p).1 N') : P_MD_freed N p post := by
  have h7 := I.1.1
  have pw := I.1
  have v := I.2.2.1.1
  have t20 := t20 I
  intro R16 k16
  unfold B_MD_freed_i
  unfold fFreed at k
  refine m_guest R.1.1 h7 (fun g hg e => brn_f (by decide) ?_) (fun q => brn_t rfl ?_)
  · subst e
    rw [gi_some hg (by omega)] at k
    simp only at k
    have L : ∀ d j N1, j + d = 100 → frL (xP s) g d (itp (xP s) j (xH s)) + j = frL (xP s) g 100 (xH s) → MR N1 51 (pN (xP s)) (itp (xP s) j (xH s)) → RM s N1 → R16 N1 (nI j) := by
      intro d
      induction d with
      | zero =>
        intro j N1 ej e H R1
        apply k16
        unfold B_MD_freed_16
        have e : 0 + j = frL (xP s) g 100 (xH s) := e
        refine br_t (nI_lt (a := 99) (by omega) (by omega)) ?_
        have := k N1 R1
        unfold wh at this
        rw [if_neg (by omega)] at this
        exact this
      | succ d ih =>
        intro j N1 ej e H R1
        obtain ⟨e1, e2⟩ := fr_step e
        have vj := gv_itp v pw j
        have w3 := (vj.2 g hg).1
        apply k16
        unfold B_MD_freed_16
        rw [c53, nI_1]
        simp (disch := omega) only [cl, forall_eq]
        rw [show N1 1 (53 + g) = nI (hW (itp (xP s) j (xH s)) g) from (H.2.2 g hg).1]
        refine br_f (nI_nlt (a := 99) (b := j) (by omega) (by decide)) ⟨vin (by omega) (by decide), ?_⟩
        by_cases c : hW (itp (xP s) j (xH s)) g = 2
        · refine brn_t (by rw [c]; rfl) ?_
          have := k N1 R1
          unfold wh at this
          rw [← e1 c, if_pos (by omega)] at this
          exact this
        · refine brn_f (fun z => c (nI_inj (b := 2) (by omega) (by decide) z)) (m_hour (r := 51) R1.1 pw H vj (by decide) (by rw [hT_itp]; omega) (fun N2 H2 f2 => ?_))
          exact ih (j + 1) N2 (by omega) (e2 c) H2 (rm_fm I R1 f2)
    refine m_tries I R (fun N1 R1 H f e => ?_)
    simp only [forall_eq]
    exact L 100 0 N1 rfl rfl H R1
  · rw [gi_none (by omega) q] at k
    exact k N R
theorem y_task {p : Int32} {post : Int32 → Mem → Prop} (I : IX T s) (R : RM s N) (k : ∀ N', RM (fTask s p).2 N' → post (fTask s p).1 N') : P_MD_task N p post := by
  have h7 := I.1.1
  unfold P_MD_task B_MD_task_i
  unfold fTask at k
  refine m_guest R.1.1 h7 (fun g hg e => brn_f (by decide) ?_) (fun q => brn_t rfl ?_)
  · subst e
    rw [gi_some hg (by omega)] at k
    exact m_tries I R (fun N1 R1 H f e => m_taskOf R1.1 I.1 H I.2.2.1.1 (t20 I) hg (fun N2 f2 => k N2 (rm_fm I R1 f2)))
  · rw [gi_none (by omega) q] at k
    exact k N R
end
