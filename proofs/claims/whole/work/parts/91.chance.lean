theorem rem2 {a b : Nat} (ha : a < 2 ^ 31) (hb : b < 2 ^ 31) (h0 : b ≠ 0) : nI a - nI a / nI b * nI b = nI (a % b) := by
  have h1 := Nat.div_mul_le_self a b
  rw [pk_div ha (by omega) hb, pk_mul, pk_sub h1]
  have := Nat.div_add_mod' a b
  exact congrArg nI (by omega)
theorem gcd_s (a b : Nat) : Nat.gcd b (a % b) = Nat.gcd a b := by rw [Nat.gcd_comm b, Nat.gcd_comm a b, ← Nat.gcd_rec]
theorem half_mod {b r : Nat} (hr : 0 < r) (hb : r < b) : 2 * (b % r) < b := by
  by_cases c : 2 * r ≤ b
  · have := Nat.mod_lt b hr; omega
  · have e : b % r = b - r := by
      rw [Nat.mod_eq_sub_mod (by omega), Nat.mod_eq_of_lt (by omega)]
    omega
section
variable {M : Mem}
theorem s_lower {up dn : Nat} {post : Mem → Prop} (e5 : M 148 5 = nI up) (e6 : M 148 6 = nI dn) (hu : up < 2 ^ 24) (hd : dn < 2 ^ 24) (d0 : 0 < dn) (k : ∀ M', M' 148 5 = nI (up / Nat.gcd dn up) → M' 148 6 = nI (dn / Nat.gcd dn up) → (∀ q, q ≠ 148 → M' q = M q) → post M') : P_Chance_lower M post := by
  intro R12 R38 k12 k38
  have fin : R38 M (nI (Nat.gcd dn up)) := by
    have g0 : 0 < Nat.gcd dn up := Nat.gcd_pos_of_pos_left _ d0
    have gl : Nat.gcd dn up ≤ dn := Nat.le_of_dvd d0 (Nat.gcd_dvd_left _ _)
    have ne : ¬ nI (Nat.gcd dn up) = 0 := fun z => by have := nI_inj (b := 0) (by omega) (by decide) z; omega
    apply k38
    unfold B_Chance_lower_38
    refine br_f (show ¬ nI (Nat.gcd dn up) ≤ nI 0 from nI_ge g0 (by omega)) ⟨ne, ?_⟩
    rw [e5]
    simp only [forall_eq]
    refine ⟨ne, k _ ?_ ?_ (fun q hq => by rw [mset_ne hq, mset_ne hq])⟩
    · rw [ms_j (by decide), ms_s, pk_div (by omega) (by omega) (by omega)]
    · rw [ms_s, ms_j (by decide), e6, pk_div (by omega) (by omega) (by omega)]
  have E : ∀ n a b c, b < 2 ^ n → a < 2 ^ 24 → b < 2 ^ 24 → c + 2 * n + 2 ≤ 100 → Nat.gcd a b = Nat.gcd dn up → R12 M (nI a) (nI b) (nI c) := by
    intro n
    induction n with
    | zero =>
      intro a b c h1 h2 h3 h4 h5
      have : b = 0 := by
        have h1 : b < 1 := h1
        omega
      subst this
      rw [Nat.gcd_zero_right] at h5
      apply k12
      unfold B_Chance_lower_12
      refine br_f (nI_ge (b := 100) (by omega) (by decide)) (br_t rfl ?_)
      rw [h5]; exact fin
    | succ n ih =>
      intro a b c h1 h2 h3 h4 h5
      apply k12
      unfold B_Chance_lower_12
      by_cases b0 : b = 0
      · subst b0
        rw [Nat.gcd_zero_right] at h5
        refine br_f (nI_ge (b := 100) (by omega) (by decide)) (br_t rfl ?_)
        rw [h5]; exact fin
      · have nb : ¬ nI b = 0 := fun z => b0 (nI_inj (b := 0) (by omega) (by decide) z)
        refine br_f (nI_ge (b := 100) (by omega) (by decide)) (br_f nb ⟨nb, ?_⟩)
        rw [rem2 (by omega) (by omega) b0]
        simp only [forall_eq, nI_1]
        have hr := Nat.mod_lt a (show 0 < b by omega)
        have g1 := gcd_s a b
        apply k12
        unfold B_Chance_lower_12
        by_cases r0 : a % b = 0
        · rw [r0, Nat.gcd_zero_right] at g1
          rw [r0]
          refine br_f (nI_ge (b := 100) (by omega) (by decide)) (br_t rfl ?_)
          rw [g1, h5]; exact fin
        · have nr : ¬ nI (a % b) = 0 := fun z => r0 (nI_inj (b := 0) (by omega) (by decide) z)
          refine br_f (nI_ge (b := 100) (by omega) (by decide)) (br_f nr ⟨nr, ?_⟩)
          rw [rem2 (by omega) (by omega) r0]
          simp only [forall_eq, nI_1]
          have hm := half_mod (b := b) (r := a % b) (by omega) hr
          have p2 : 2 ^ (n + 1) = 2 * 2 ^ n := by rw [Nat.pow_succ, Nat.mul_comm]
          exact ih (a % b) (b % (a % b)) (c + 1 + 1) (by omega) (by omega) (by omega) (by omega) (by rw [gcd_s, g1, h5])
  unfold B_Chance_lower_i
  simp only [forall_eq]
  rw [e5, e6]
  exact E 24 dn up 0 hu hd hu (by decide) rfl
theorem s_weight {x a m : Nat} {post : Int32 → Mem → Prop} (e4 : M 148 4 = nI m) (m7 : m ≤ 7) (ha : a < 2 ^ 31) (hx : x ≤ 10) (k : post (nI (cw x a m)) M) : P_Chance_weightOf M (nI a) (nI x) post := by
  intro R5 k5
  have L : ∀ i, i ≤ m → R5 M (nI (cw x a i)) (nI i) := by
    refine up_loop (fun i hi ih => ?_) ?_
    · apply k5
      unfold B_Chance_weightOf_5
      rw [e4]
      have e : cw x a (i + 1) = cw x a i * (if a / 2 ^ i % 2 = 1 then x else 10 - x) := rfl
      rw [show (10 : Int32) - nI x = nI (10 - x) from pk_sub (a := 10) hx, pk_mul, pk_mul]
      simp only [forall_eq, nI_1]
      refine br_f (nI_ge hi (by omega)) ?_
      by_cases c : a / 2 ^ i % 2 = 1
      · rw [if_pos c] at e
        rw [e] at ih
        exact brn_t ((tb_has ha (by omega)).mpr c) ih
      · rw [if_neg c] at e
        rw [e] at ih
        exact brn_f (fun z => c ((tb_has ha (by omega)).mp z)) ih
    · apply k5
      unfold B_Chance_weightOf_5
      rw [e4]
      exact br_t (nI_le (Nat.le_refl _) (by omega)) k
  unfold B_Chance_weightOf_i
  simp only [forall_eq]
  exact L 0 (Nat.zero_le _)
end
