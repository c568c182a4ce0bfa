theorem dnL_le (P : PT) : ∀ (f : Nat) (h : HT), dnL P f h ≤ f
  | 0, _ => Nat.le_refl _
  | f + 1, h => by
    unfold dnL
    split
    · omega
    · have := dnL_le P f (pss P h); omega
def b3 : Option (Nat × Nat) → Int32
  | none => 1000000
  | some r => nI r.2
def b4 (b : Option Nat × Nat) : Int32 := match b.1 with
  | none => 1000000
  | some _ => nI b.2
section
variable {T : Nat} {s : ST} {N : Mem}
theorem y_early {p q : Int32} {post : Int32 → Mem → Prop} (I : IX T s) (R : RM s N) (k : ∀ N', RM (fEarly s p q).2 N' → post (fEarly s p q).1 N') : P_MD_early N p q post := by
  have pw := I.1
  have h7 := I.1.1
  have v := I.2.2.1.1
  have t20 := t20 I
  intro R49 R91 k49 k91
  unfold B_MD_early_i
  unfold fEarly at k
  refine m_guest R.1.1 h7 (fun g hg e => br_f (by decide) ?_) (fun q => br_t rfl ?_)
  · subst e
    rw [gi_some hg (by omega)] at k
    refine m_rg 0 1 (by decide) rfl rfl (fun e => brn_t rfl ?_) (fun w e c1 c2' eq => brn_f (by decide) ?_)
    · rw [e] at k
      exact k N R
    · rw [e] at k
      subst eq
      simp only at k
      rw [c2]
      simp (disch := omega) only [cl, forall_eq]
      have ew : N 1 (2 + g) = nI (hW (xH s) g) := by rw [← Nat.zero_add 2]; exact (R.2.1.2.2 g hg).1
      have w3 := (v.2 g hg).1
      rw [ew]
      refine ⟨vin (by omega) (by decide), ?_⟩
      by_cases c : hW (xH s) g = 0
      · rw [if_pos c] at k
        obtain ⟨u1, u2, u3, u4⟩ := (v.2 g hg).2.2.2.2.2.2.1 c
        have u40 := (v.2 g hg).2.1
        refine br_t (by rw [c]; rfl) ⟨vin (n := 0) (by decide) (by decide), ?_⟩
        have L : ∀ d x b N1, x + d = 41 → hT (xH s) ≤ x → eL (xP s) (xH s) g d x b = eL (xP s) (xH s) g (41 - hT (xH s)) (hT (xH s)) none → (∀ r, b = some r → r.1 ≤ 40 ∧ r.2 < 2 ^ 19) → RM s N1 → R49 N1 (b1 b) (b3 b) (nI x) := by
          intro d
          induction d with
          | zero =>
            intro x b N1 ex hx eb rb R1
            apply k49
            unfold B_MD_early_49
            refine br_t (nI_lt (a := 40) (by omega) (by omega)) ?_
            have kk := k N1
            rw [← eb] at kk
            unfold eL at kk
            cases b with
            | none => exact ⟨fun z => absurd rfl z, fun _ => kk R1⟩
            | some r =>
              simp only at kk
              refine brn_f (nI_ne4 (by have := rb r rfl; omega)) ?_
              by_cases z : w = 0
              · subst z
                exact ⟨fun y => absurd rfl y, fun _ => kk R1⟩
              · rw [if_neg z] at kk
                exact ⟨fun _ => kk R1, fun y => absurd (nI_inj (b := 0) (by omega) (by decide) y) z⟩
          | succ d ih =>
            intro x b N1 ex hx eb rb R1
            apply k49
            unfold B_MD_early_49
            refine br_f (nI_nlt (a := 40) (b := x) (by omega) (by decide)) (m_tries I R1 (fun N2 R2 H f e => ?_))
            rw [c60]
            simp (disch := omega) only [cl, forall_eq]
            refine ⟨vin (by omega) (by decide), ?_⟩
            have H3 : MR (mset N2 1 (60 + g) (nI x)) 51 (pN (xP s)) (sU (xH s) g x) := H.sU h7 hg
            have F3 : FM 51 N2 (mset N2 1 (60 + g) (nI x)) := FM.rf.set (by omega) (by omega)
            have v2 := gv_sU (g := g) v hx (show x ≤ 40 by omega)
            have tb := tsk_b v2 pw hg
            refine m_taskOf (R2.1.fr F3) pw H3 v2 t20 hg (fun N4 F4 => ?_)
            have R4 := rm_fm I R2 (F3.tr F4)
            have nx : ∀ b', b' = eSt (xP s) (xH s) g x b → R49 N4 (b1 b') (b3 b') (nI (x + 1)) := fun b' eb' => by
              refine ih (x + 1) b' N4 (by omega) (by omega) (by rw [eb', ← eb]; rfl) (fun r hr => ?_) R4
              rw [eb'] at hr
              unfold eSt at hr
              split at hr
              · cases hr; exact ⟨by show x ≤ 40; omega, by show tsk _ _ _ < _; omega⟩
              · split at hr
                · cases hr; exact ⟨by show x ≤ 40; omega, by show tsk _ _ _ < _; omega⟩
                · cases hr; exact rb _ rfl
            have st : ∀ b', b' = eSt (xP s) (xH s) g x b → ((b3 b ≤ nI (tsk (xP s) (sU (xH s) g x) g) ∧ b' = b) ∨ (¬ b3 b ≤ nI (tsk (xP s) (sU (xH s) g x) g) ∧ b' = some (x, tsk (xP s) (sU (xH s) g x) g))) := by
              intro b' eb'
              cases b with
              | none => exact Or.inr ⟨nI_ge (b := 1000000) (by omega) (by decide), eb'⟩
              | some r =>
                have rr := rb r rfl
                unfold eSt at eb'
                simp only at eb'
                by_cases z : tsk (xP s) (sU (xH s) g x) g < r.2
                · rw [if_pos z] at eb'; exact Or.inr ⟨nI_ge z (by omega), eb'⟩
                · rw [if_neg z] at eb'; exact Or.inl ⟨nI_le (by omega) (by omega), eb'⟩
            have nx := nx _ rfl
            rcases st _ rfl with ⟨z, e⟩ | ⟨z, e⟩
            · rw [e] at nx
              refine br_t z (k91 _ _ _ _ _ ?_)
              unfold B_MD_early_91
              simp only [forall_eq, nI_1]
              exact br_t z nx
            · rw [e] at nx
              refine br_f z (k91 _ _ _ _ _ ?_)
              unfold B_MD_early_91
              simp only [forall_eq, nI_1]
              exact br_f z nx
        have := L (41 - hT (xH s)) (hT (xH s)) none N (by omega) (Nat.le_refl _) rfl (fun r hr => by cases hr) R
        rw [show N 1 ((0 : Int32)).toNatClampNeg = nI (hT (xH s)) from R.2.1.1]
        exact this
      · rw [if_neg c] at k
        exact br_f (fun z => c (nI_inj (b := 0) (by omega) (by decide) z)) (k N R)
  · rw [gi_none (by omega) q] at k
    exact k N R
theorem y_off {q : Int32} {post : Int32 → Mem → Prop} (I : IX T s) (R : RM s N) (k : ∀ N', RM (fOff s q).2 N' → post (fOff s q).1 N') : P_MD_off N q post := by
  have pw := I.1
  have h7 := I.1.1
  have v := I.2.2.1.1
  have t20 := t20 I
  intro R21 R75 k21 k75
  unfold B_MD_off_i
  unfold fOff at k
  refine m_rg 0 1 (by decide) rfl rfl (fun e => brn_t rfl ?_) (fun w e c1 c2' eq => brn_f (by decide) ?_)
  · rw [e] at k
    exact k N R
  · rw [e] at k
    subst eq
    simp only at k
    simp only [forall_eq]
    have L : ∀ i, i ≤ pN (xP s) → ∀ N1, ((∀ c, (ofL (xP s) (xH s) i).1 = some c → c < pN (xP s) ∧ (ofL (xP s) (xH s) i).2 ≤ 99) ∧ ((ofL (xP s) (xH s) i).1 = none → (ofL (xP s) (xH s) i).2 = 100)) → RM s N1 → R21 N1 (oI (ofL (xP s) (xH s) i).1) (b4 (ofL (xP s) (xH s) i)) (nI i) := by
      refine up_loop (fun i hi ih N1 rb R1 => ?_) (fun N1 rb R1 => ?_)
      · apply k21
        unfold B_MD_off_21
        rw [R1.1.1, c2, c53]
        simp (disch := omega) only [cl, forall_eq, nI_1]
        have ew : N1 1 (2 + i) = nI (hW (xH s) i) := by rw [← Nat.zero_add 2]; exact (R1.2.1.2.2 i hi).1
        have w3 := (v.2 i hi).1
        have eo : ofL (xP s) (xH s) (i + 1) = if hW (xH s) i = 0 ∧ dn (xP s) (sW (xH s) i 3) < (ofL (xP s) (xH s) i).2 then (some i, dn (xP s) (sW (xH s) i 3)) else ofL (xP s) (xH s) i := rfl
        rw [ew]
        refine br_f (nI_ge hi (by omega)) ⟨vin (by omega) (by decide), ?_⟩
        by_cases c : hW (xH s) i = 0
        · refine brn_t (by rw [c]; rfl) (m_tries I R1 (fun N2 R2 H f e => ⟨vin (by omega) (by decide), ?_⟩))
          have H3 : MR (mset N2 1 (53 + i) 3) 51 (pN (xP s)) (sW (xH s) i 3) := MR.sW (x := 3) H h7 hi
          have F3 : FM 51 N2 (mset N2 1 (53 + i) 3) := FM.rf.set (by omega) (by omega)
          have v3 := gv_off v hi c
          refine m_doneBy (R2.1.fr F3) pw H3 v3 t20 (fun N4 F4 => ?_)
          have R4 := rm_fm I R2 (F3.tr F4)
          have d100 : dn (xP s) (sW (xH s) i 3) ≤ 100 := dnL_le _ 100 _
          have st : (b4 (ofL (xP s) (xH s) i) ≤ dI (dn (xP s) (sW (xH s) i 3)) ∧ ¬ dn (xP s) (sW (xH s) i 3) < (ofL (xP s) (xH s) i).2) ∨ (¬ b4 (ofL (xP s) (xH s) i) ≤ dI (dn (xP s) (sW (xH s) i 3)) ∧ dn (xP s) (sW (xH s) i 3) < (ofL (xP s) (xH s) i).2 ∧ dI (dn (xP s) (sW (xH s) i 3)) = nI (dn (xP s) (sW (xH s) i 3))) := by
            unfold b4 dI
            by_cases z9 : dn (xP s) (sW (xH s) i 3) ≤ 99
            · rw [if_pos z9]
              cases eb : (ofL (xP s) (xH s) i).1 with
              | none =>
                have := rb.2 eb
                exact Or.inr ⟨nI_ge (b := 1000000) (by omega) (by decide), by omega, rfl⟩
              | some j =>
                have := (rb.1 j eb).2
                by_cases z : dn (xP s) (sW (xH s) i 3) < (ofL (xP s) (xH s) i).2
                · exact Or.inr ⟨nI_ge z (by omega), z, rfl⟩
                · exact Or.inl ⟨nI_le (by omega) (by omega), z⟩
            · rw [if_neg z9]
              cases eb : (ofL (xP s) (xH s) i).1 with
              | none =>
                have := rb.2 eb
                exact Or.inl ⟨nI_le (a := 1000000) (b := 1000000) (Nat.le_refl _) (by decide), by omega⟩
              | some j =>
                have := (rb.1 j eb).2
                exact Or.inl ⟨nI_le (b := 1000000) (by omega) (by decide), by omega⟩
          have nx := ih N4
          rcases st with ⟨z, y⟩ | ⟨z, y, x⟩
          · rw [eo, if_neg (fun x => y x.2)] at nx
            refine br_t z (k75 _ _ _ _ _ ?_)
            unfold B_MD_off_75
            simp only [forall_eq, nI_1]
            exact br_t z (nx rb R4)
          · rw [eo, if_pos ⟨c, y⟩] at nx
            refine br_f z (k75 _ _ _ _ _ ?_)
            unfold B_MD_off_75
            simp only [forall_eq, nI_1]
            refine br_f z ?_
            rw [x]
            refine nx ⟨fun j ej => ?_, fun ej => by cases ej⟩ R4
            cases ej
            refine ⟨hi, ?_⟩
            show dn (xP s) (sW (xH s) i 3) ≤ 99
            cases eb : (ofL (xP s) (xH s) i).1 with
            | none => have := rb.2 eb; omega
            | some j => have := (rb.1 j eb).2; omega
        · have nx := ih N1
          rw [eo, if_neg (fun x => c x.1)] at nx
          exact brn_f (fun z => c (nI_inj (b := 0) (by omega) (by decide) z)) (nx rb R1)
      · apply k21
        unfold B_MD_off_21
        rw [R1.1.1]
        refine br_t (nI_le (Nat.le_refl _) (by omega)) ?_
        have k := k N1
        unfold b4
        cases e : (ofL (xP s) (xH s) (pN (xP s))).1 with
        | none =>
          rw [e] at k
          exact ⟨fun z => absurd rfl z, fun _ => k R1⟩
        | some c =>
          rw [e] at k
          simp only at k
          have := rb.1 c e
          refine brn_f (nI_ne4 (by omega)) ?_
          by_cases z : w = 0
          · subst z
            exact ⟨fun y => absurd rfl y, fun _ => k R1⟩
          · rw [if_neg z] at k
            exact ⟨fun _ => k R1, fun y => absurd (nI_inj (b := 0) (by omega) (by decide) y) z⟩
    exact L 0 (Nat.zero_le _) N ⟨fun c e => (Option.some_ne_none c e.symm).elim, fun _ => rfl⟩ R
end
