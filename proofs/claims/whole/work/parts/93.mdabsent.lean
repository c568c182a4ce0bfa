theorem wf_mF {n : Nat} (h : HT) (a : Nat) : ∀ i, WF n h (mF h a i)
  | 0 => fun g hg => by
    by_cases z : hW h g = 0
    · exact Or.inl ⟨z, Or.inl z⟩
    · exact Or.inr ⟨z, rfl⟩
  | i + 1 => by
    have ih := wf_mF (n := n) h a i
    unfold mF
    by_cases c : hW h i = 0
    · rw [if_pos c]
      intro g hg
      by_cases z : g = i
      · subst z
        rw [up_s]
        refine Or.inl ⟨c, ?_⟩
        split
        · exact Or.inr rfl
        · exact Or.inl rfl
      · rw [up_n z]; exact ih g hg
    · rw [if_neg c]; exact ih
theorem mw_le {h : HT} {x : Nat} (hx : x ≤ 10) (a : Nat) : ∀ k, mw h x a k ≤ 10 ^ k
  | 0 => Nat.le_refl _
  | k + 1 => by
    unfold mw
    rw [Nat.pow_succ]
    refine Nat.mul_le_mul (mw_le hx a k) ?_
    split
    · split <;> omega
    · split <;> omega
section
variable {T : Nat} {s : ST} {N : Mem}
theorem y_absent {p q w : Int32} {post : Int32 → Mem → Prop} (I : IX T s) (R : RM s N) (k : ∀ N', RM (fAbs s p q w).2 N' → post (fAbs s p q w).1 N') : P_MD_absent N p q w post := by
  have pw := I.1
  have h7 := I.1.1
  have v := I.2.2.1.1
  have t20 := t20 I
  have m7 := bk7 pw (xH s)
  have m10 := p10 (bkd (xP s) (xH s)).length (by omega)
  intro R41 R82 R266 R103 R209 R144 k41 k82 k266 k103 k209 k144
  unfold B_MD_absent_i
  unfold fAbs at k
  refine m_guest R.1.1 h7 (fun g hg e => br_f (by decide) ?_) (fun e => br_t rfl ?_)
  · subst e
    rw [gi_some hg (by omega)] at k
    refine m_rg 0 10 (by decide) rfl rfl (fun e => br_t rfl ?_) (fun x e c1 c2' eq => br_f (by decide) ?_)
    · rw [e] at k; exact k N R
    · rw [e] at k
      subst eq
      refine m_rg 0 1 (by decide) rfl rfl (fun e' => brn_t rfl ?_) (fun u e' c3 c4 eq' => brn_f (by decide) ?_)
      · rw [e'] at k; exact k N R
      · rw [e'] at k
        subst eq'
        simp only at k
        simp only [forall_eq]
        have Fx1 : ∀ f, frF (xP s) (xH s) g f ≤ 1 := fun f => by unfold frF; split <;> omega
        have upl : upA s g x ≤ dnA s := tT_le (xH s) c2' (pN (xP s)) _ Fx1
        have dn7 : dnA s ≤ 10000000 := m10
        have d0 : 0 < dnA s := Nat.pow_pos (by decide)
        have eup : sm (fun a => mw (xH s) x a (pN (xP s)) * frF (xP s) (xH s) g (mF (xH s) a (pN (xP s)))) (2 ^ pN (xP s)) = upA s g x := m_sum (xH s) x (pN (xP s)) (frF (xP s) (xH s) g)
        have p128 : 2 ^ pN (xP s) ≤ 128 := Nat.pow_le_pow_right (by decide) h7
        have E : ∀ b a N1, RM s N1 → a < 2 ^ 24 → b < 2 ^ 24 → Nat.gcd a b = Nat.gcd (dnA s) (upA s g x) → R266 N1 (nI (upA s g x)) (nI (dnA s)) (nI a) (nI b) := by
          intro b
          induction b using Nat.strongRecOn with
          | _ b ih =>
            intro a N1 R1 ha hb e
            apply k266
            unfold B_MD_absent_266
            by_cases b0 : b = 0
            · subst b0
              rw [Nat.gcd_zero_right] at e
              have g0 : 0 < Nat.gcd (dnA s) (upA s g x) := Nat.gcd_pos_of_pos_left _ d0
              have na : ¬ nI a = 0 := fun z => by have := nI_inj (b := 0) (by omega) (by decide) z; omega
              refine br_t rfl ?_
              rw [pk_div (show dnA s < 2 ^ 31 by omega) (by omega) (show a < 2 ^ 31 by omega), pk_div (show upA s g x < 2 ^ 31 by omega) (by omega) (show a < 2 ^ 31 by omega), e]
              have na' := na
              rw [e] at na'
              by_cases z : u = 0
              · rw [if_pos z] at k
                subst z
                exact ⟨fun y => absurd rfl y, fun _ => ⟨na', k N1 R1⟩⟩
              · rw [if_neg z] at k
                exact ⟨fun _ => ⟨na', k N1 R1⟩, fun y => absurd (nI_inj (b := 0) (by omega) (by decide) y) z⟩
            · have nb : ¬ nI b = 0 := fun z => b0 (nI_inj (b := 0) (by omega) (by decide) z)
              refine br_f nb ⟨nb, ?_⟩
              rw [rem2 (by omega) (by omega) b0]
              simp only [forall_eq]
              have hr := Nat.mod_lt a (show 0 < b by omega)
              exact ih (a % b) hr b N1 R1 hb (by omega) (by rw [gcd_s, e])
        have S82 : ∀ d a N1, a + d = 2 ^ pN (xP s) → RM s N1 → R82 N1 (nI (sm (fun a => mw (xH s) x a (pN (xP s)) * frF (xP s) (xH s) g (mF (xH s) a (pN (xP s)))) a)) (nI (dnA s)) (nI a) := by
          intro d
          induction d with
          | zero =>
            intro a N1 ea R1
            have : a = 2 ^ pN (xP s) := by omega
            subst this
            rw [eup]
            apply k82
            unfold B_MD_absent_82
            rw [R1.1.1, shlb _ (by omega)]
            refine br_t (nI_le (Nat.le_refl _) (by omega)) ?_
            simp only [forall_eq]
            exact E (dnA s) (upA s g x) N1 R1 (by omega) (by omega) (Nat.gcd_comm _ _)
          | succ d ih =>
            intro a N1 ea R1
            have cl10 := mw_le (h := xH s) c2' a (pN (xP s))
            have p7 := p10 (pN (xP s)) (by omega)
            have es : sm (fun a => mw (xH s) x a (pN (xP s)) * frF (xP s) (xH s) g (mF (xH s) a (pN (xP s)))) (a + 1) = sm (fun a => mw (xH s) x a (pN (xP s)) * frF (xP s) (xH s) g (mF (xH s) a (pN (xP s)))) a + mw (xH s) x a (pN (xP s)) * frF (xP s) (xH s) g (mF (xH s) a (pN (xP s))) := rfl
            generalize hU : sm (fun a => mw (xH s) x a (pN (xP s)) * frF (xP s) (xH s) g (mF (xH s) a (pN (xP s)))) a = up at es
            apply k82
            unfold B_MD_absent_82
            rw [R1.1.1, shlb _ (by omega)]
            refine br_f (nI_ge (by omega) (by omega)) ?_
            simp only [forall_eq]
            refine m_tries I R1 (fun N2 R2 H2 f2 eq2 => ?_)
            have L : ∀ i, i ≤ pN (xP s) → ∀ N3, RM s N3 → MR N3 51 (pN (xP s)) (sWW (xH s) (mF (xH s) a i)) → R103 N3 (nI up) (nI (dnA s)) (nI a) (nI (mw (xH s) x a i)) (nI i) := by
              refine up_loop (fun i hi ihi N3 R3 H3 => ?_) (fun N3 R3 H3 => ?_)
              · have ew : N3 1 (2 + i) = nI (hW (xH s) i) := by rw [← Nat.zero_add 2]; exact (R3.2.1.2.2 i hi).1
                have w3 := (v.2 i hi).1
                have em : mw (xH s) x a (i + 1) = mw (xH s) x a i * (if hW (xH s) i = 0 then (if a / 2 ^ i % 2 = 1 then x else 10 - x) else if a / 2 ^ i % 2 = 1 then 0 else 1) := rfl
                have ef : mF (xH s) a (i + 1) = if hW (xH s) i = 0 then va_up (mF (xH s) a i) i (if a / 2 ^ i % 2 = 1 then 3 else 0) else mF (xH s) a i := rfl
                apply k103
                unfold B_MD_absent_103
                rw [R3.1.1, c2]
                simp (disch := omega) only [cl, ew, forall_eq, nI_1]
                refine br_f (nI_ge hi (by omega)) ⟨vin (by omega) (by decide), ?_⟩
                by_cases c : hW (xH s) i = 0
                · rw [if_pos c] at em ef
                  refine brn_t (by rw [c]; rfl) (m_has (by omega) (by omega) (fun z => br_f (by decide) ?_) (fun z => br_t rfl ?_))
                  · rw [if_pos z] at em ef
                    apply k144
                    unfold B_MD_absent_144
                    rw [pk_mul, ← em, c53]
                    simp (disch := omega) only [cl, forall_eq, nI_1]
                    refine m_has (by omega) (by omega) (fun _ => br_f (by decide) ⟨vin (by omega) (by decide), ?_⟩) (fun y => absurd z y)
                    have F : FM 51 N3 (mset N3 1 (53 + i) 3) := FM.rf.set (by omega) (by omega)
                    rw [ef] at ihi
                    exact ihi _ (rm_fm I R3 F) (MR.sW (g := i) (x := 3) H3 h7 hi)
                  · rw [if_neg z] at em ef
                    apply k144
                    unfold B_MD_absent_144
                    rw [show (10 : Int32) - nI x = nI (10 - x) from pk_sub (a := 10) c2', pk_mul, ← em, c53]
                    simp (disch := omega) only [cl, forall_eq, nI_1]
                    refine m_has (by omega) (by omega) (fun y => absurd y z) (fun _ => br_t rfl ⟨vin (by omega) (by decide), ?_⟩)
                    have F : FM 51 N3 (mset N3 1 (53 + i) 0) := FM.rf.set (by omega) (by omega)
                    rw [ef] at ihi
                    exact ihi _ (rm_fm I R3 F) (MR.sW (g := i) (x := 0) H3 h7 hi)
                · rw [if_neg c] at em ef
                  rw [ef, em] at ihi
                  refine brn_f (fun z => c (nI_inj (b := 0) (by omega) (by decide) z)) (m_has (by omega) (by omega) (fun z => br_f (by decide) ?_) (fun z => br_t rfl ?_))
                  · rw [if_pos z] at ihi
                    rw [show (0 : Int32) = nI 0 from rfl, pk_mul]
                    exact ihi N3 R3 H3
                  · rw [if_neg z] at ihi
                    rw [show (1 : Int32) = nI 1 from rfl, pk_mul]
                    exact ihi N3 R3 H3
              · have wm := wf_mF (n := pN (xP s)) (xH s) a (pN (xP s))
                have vm := gv_WW v wm
                apply k103
                unfold B_MD_absent_103
                rw [R3.1.1]
                refine br_t (nI_le (Nat.le_refl _) (by omega)) ?_
                simp only [forall_eq, nI_1]
                by_cases z : mw (xH s) x a (pN (xP s)) = 0
                · rw [z, Nat.zero_mul, Nat.add_zero] at es
                  rw [z]
                  have nx := ih (a + 1) N3 (by omega) R3
                  rw [es] at nx
                  exact br_t (nI_le (a := 0) (b := 0) (Nat.le_refl _) (by decide)) nx
                · refine br_f (show ¬ nI _ ≤ nI 0 from nI_ge (by omega) (by omega)) ?_
                  have L9 : ∀ j, j ≤ 99 → ∀ N4, RM s N4 → MR N4 51 (pN (xP s)) (itp (xP s) j (sWW (xH s) (mF (xH s) a (pN (xP s))))) → R209 N4 (nI up) (nI (dnA s)) (nI a) (nI (mw (xH s) x a (pN (xP s)))) (nI j) := by
                    refine up_loop (fun j hj ihj N4 R4 H4 => ?_) (fun N4 R4 H4 => ?_)
                    · apply k209
                      unfold B_MD_absent_209
                      refine br_f (nI_ge (b := 99) hj (by decide)) (m_hour (r := 51) R4.1 pw H4 (gv_itp vm pw j) (by decide) (by rw [hT_itp]; show hT (xH s) + j < _; omega) (fun N5 H5 f5 => ?_))
                      simp only [forall_eq, nI_1]
                      exact ihj N5 (rm_fm I R4 f5) H5
                    · apply k209
                      unfold B_MD_absent_209
                      have w3 := ((gv_itp vm pw 99).2 g hg).1
                      rw [c53]
                      simp (disch := omega) only [cl, forall_eq, nI_1]
                      rw [show N4 1 (53 + g) = nI (hW (itp (xP s) 99 (sWW (xH s) (mF (xH s) a (pN (xP s))))) g) from (H4.2.2 g hg).1]
                      refine br_t (nI_le (a := 99) (b := 99) (Nat.le_refl _) (by decide)) ⟨vin (by omega) (by decide), ?_⟩
                      have nx := ih (a + 1) N4 (by omega) R4
                      rw [es] at nx
                      unfold frF at nx
                      by_cases c : hW (itp (xP s) 99 (sWW (xH s) (mF (xH s) a (pN (xP s))))) g = 2
                      · rw [if_pos c, Nat.mul_one] at nx
                        refine brn_t (by rw [c]; rfl) ?_
                        rw [nI_add]; exact nx
                      · rw [if_neg c, Nat.mul_zero] at nx
                        refine brn_f (fun y => c (nI_inj (b := 2) (by omega) (by decide) y)) ?_
                        rw [show nI up + 0 = nI (up + 0) from nI_add up 0]; exact nx
                  exact L9 0 (Nat.zero_le _) N3 R3 H3
            exact L 0 (Nat.zero_le _) N2 R2 H2
        have S41 : ∀ i, i ≤ pN (xP s) → R41 N (nI 0) (nI (10 ^ (bkI (xH s) i).length)) (nI i) := by
          refine up_loop (fun i hi ih => ?_) ?_
          · have ew : N 1 (2 + i) = nI (hW (xH s) i) := by rw [← Nat.zero_add 2]; exact (R.2.1.2.2 i hi).1
            have w3 := (v.2 i hi).1
            have bs := bkI_s (xH s) i
            apply k41
            unfold B_MD_absent_41
            rw [R.1.1, c2]
            simp (disch := omega) only [cl, ew, forall_eq, nI_1]
            refine br_f (nI_ge hi (by omega)) ⟨vin (by omega) (by decide), ?_⟩
            by_cases c : hW (xH s) i = 0
            · rw [if_pos c] at bs
              rw [bs, List.length_append, show ([i] : List Nat).length = 1 from rfl, Nat.pow_succ] at ih
              refine brn_t (by rw [c]; rfl) ?_
              rw [show (10 : Int32) = nI 10 from rfl, pk_mul]; exact ih
            · rw [if_neg c] at bs
              rw [bs] at ih
              refine brn_f (fun z => c (nI_inj (b := 0) (by omega) (by decide) z)) ?_
              rw [show (1 : Int32) = nI 1 from rfl, pk_mul, Nat.mul_one]; exact ih
          · apply k41
            unfold B_MD_absent_41
            rw [R.1.1]
            refine br_t (nI_le (Nat.le_refl _) (by omega)) ?_
            simp only [forall_eq]
            exact S82 _ 0 N (Nat.zero_add _) R
        exact S41 0 (Nat.zero_le _)
  · rw [gi_none (by omega) e] at k
    exact k N R
end
