theorem ext_nd {n : Nat} : ∀ (r : Nat) (pre q : List Nat), q ∈ ext n r pre → pre.Nodup → q.Nodup
  | 0, pre, q, hq, hp => by
    have : q = pre := List.mem_singleton.mp hq
    rw [this]; exact hp
  | r + 1, pre, q, hq, hp => by
    unfold ext at hq
    rw [List.mem_flatMap] at hq
    obtain ⟨k, hk, hq⟩ := hq
    split at hq
    · exact absurd hq List.not_mem_nil
    · rename_i c
      refine ext_nd r (pre ++ [k]) q hq ?_
      rw [List.nodup_append]
      exact ⟨hp, List.nodup_cons.mpr ⟨List.not_mem_nil, List.nodup_nil⟩, fun a ha b hb => by rw [List.mem_singleton.mp hb]; exact fun z => c (by rw [← z]; exact ha)⟩
theorem tps_add (P : PT) (m : Nat) (x : Int32) : ∀ j, tps P m j x = x + tps P m j 0
  | 0 => (Int32.add_zero x).symm
  | j + 1 => by
    unfold tps
    rw [tps_add P m x j]
    split
    · rw [Int32.add_assoc]
    · rfl
theorem tps_0 (P : PT) : ∀ j, tps P 0 j 0 = 0
  | 0 => rfl
  | j + 1 => by
    unfold tps
    rw [Nat.zero_div, if_neg (by decide)]; exact tps_0 P j
theorem tps_or {P : PT} {m g : Nat} (hm : m / 2 ^ g % 2 = 0) : ∀ j, tps P (m ||| 2 ^ g) j 0 = tps P m j 0 + (if g < j then nI (pT P g) else 0)
  | 0 => rfl
  | j + 1 => by
    have tb : ∀ x j : Nat, x / 2 ^ j % 2 = 1 ↔ x.testBit j = true := fun x j => by
      rw [Nat.testBit_eq_decide_div_mod_eq, decide_eq_true_iff]
    have e : (m ||| 2 ^ g) / 2 ^ j % 2 = 1 ↔ (m / 2 ^ j % 2 = 1 ∨ g = j) := by
      rw [tb, tb, Nat.testBit_or, Bool.or_eq_true, Nat.testBit_two_pow, decide_eq_true_iff]
    unfold tps
    rw [tps_or hm j]
    by_cases z : g = j
    · subst z
      rw [if_pos (e.mpr (Or.inr rfl)), if_neg (Nat.lt_irrefl _), if_neg (show ¬ m / 2 ^ g % 2 = 1 by omega), if_pos (Nat.lt_succ_self _), Int32.add_zero]
    · by_cases y : m / 2 ^ j % 2 = 1
      · rw [if_pos (e.mpr (Or.inl y)), if_pos y]
        by_cases w : g < j
        · rw [if_pos w, if_pos (by omega), Int32.add_assoc, Int32.add_comm (nI (pT P g)), ← Int32.add_assoc]
        · rw [if_neg w, if_neg (by omega), Int32.add_zero, Int32.add_zero]
      · rw [if_neg (fun q => (e.mp q).elim y z), if_neg y]
        by_cases w : g < j
        · rw [if_pos w, if_pos (by omega)]
        · rw [if_neg w, if_neg (by omega)]
theorem ps3_id {P : PT} {h : HT} (e : ∀ g, g < pN P → ¬ (hW h g = 1 ∧ ¬ hC h = some g ∧ hD h g = 0)) : ∀ i, i ≤ pN P → ps3 P i h = h
  | 0, _ => rfl
  | i + 1, hi => by
    unfold ps3
    rw [ps3_id e i (by omega), if_neg (e i (by omega))]
theorem ps3_one {P : PT} {h : HT} {c : Nat} (e : ∀ g, g < pN P → ((hW h g = 1 ∧ ¬ hC h = some g ∧ hD h g = 0) ↔ g = c)) : ∀ i, i ≤ pN P → ps3 P i h = if c < i then fr P h c else h
  | 0, _ => (if_neg (Nat.not_lt_zero _)).symm
  | i + 1, hi => by
    unfold ps3
    rw [ps3_one e i (by omega)]
    obtain ⟨x1, x2, x3, x4, x5, x6, x7, x8⟩ := hX_fr P h c
    by_cases z : c < i
    · rw [if_pos z, if_pos (show c < i + 1 by omega), if_neg]
      rw [x2, x3, x6, up_n (by omega)]
      exact fun y => by have := (e i (by omega)).mp y; omega
    · rw [if_neg z]
      by_cases y : i = c
      · subst y
        rw [if_pos ((e i (by omega)).mpr rfl), if_pos (by omega)]
      · rw [if_neg (fun w => y ((e i (by omega)).mp w)), if_neg (by omega)]
/-- all work off -/
def sDD (h : HT) (f : Nat → Nat) : HT := (h.1, h.2.1, h.2.2.1, h.2.2.2.1, h.2.2.2.2.1, f, h.2.2.2.2.2.2)
/-- who came in the order A: the house, and the coins -/
def AS (P : PT) (A : List Nat) (h : HT) (t : OT) : Prop :=
  hC h = t.1 ∧ (∀ g, g < pN P → hG h g = t.2.2.2 g) ∧
  (∀ c, t.1 = some c → c < pN P ∧ hW h c = 1 ∧ hB h c = t.2.1 ∧ tps P (hS h c) (pN P) 0 = t.2.2.1 ∧ c ∈ A) ∧
  (∀ g, g < pN P → hW h g = 1 → t.1 = some g) ∧
  (∀ g, g < pN P → g ∉ A → hB h g = none ∧ hS h g = 0) ∧
  (∀ x, x < pN P → x ∉ A → ∀ c, c < pN P → hS h c / 2 ^ x % 2 = 0) ∧
  ∀ g, g < pN P → hW h g ≤ 3 ∧ hS h g < 2 ^ 7 ∧ ∀ c, hB h g = some c → c < pN P
theorem as_step {P : PT} {A : List Nat} {h : HT} {t : OT} {x : Nat} {f : Nat → Nat} (S : AS P A h t) (h7 : pN P ≤ 7) (hx : x < pN P) (hA : x ∉ A) (hf : ∀ g, g < pN P → f g = 0) : AS P (A ++ [x]) (ps3 P (pN P) (sDD (cm P h x) f)) (stpO P t x) := by
  obtain ⟨S1, S2, S3, S4, S5, S6, S7⟩ := S
  have mem : ∀ g, g ∉ A ++ [x] ↔ g ∉ A ∧ g ≠ x := fun g => by rw [List.mem_append, List.mem_singleton]; exact not_or
  have es : stpO P t x = if pK P x = 2 then (t.1, t.2.1, t.2.2.1 + nI (pT P x), t.2.2.2) else (some x, t.1, 0, payO t.2.2.2 t.1 t.2.1 (t.2.2.1 + nI (pT P x))) := rfl
  have dC : hC (sDD (cm P h x) f) = if pK P x = 2 then t.1 else some x := by show hC (cm P h x) = _; rw [hC_cm, S1]
  have dW : ∀ g, hW (sDD (cm P h x) f) g = if g = x then (if pK P x = 2 then 2 else 1) else hW h g := fun g => by show hW (cm P h x) g = _; rw [hW_cm]
  have dB : ∀ g, hB (sDD (cm P h x) f) g = match t.1 with | none => hB h g | some c => if g = x then some c else hB h g := fun g => by show hB (cm P h x) g = _; rw [hB_cm, S1]; cases t.1 <;> rfl
  have dS : ∀ g, hS (sDD (cm P h x) f) g = if t.1 = some g then hS h g ||| 2 ^ x else hS h g := fun g => by show hS (cm P h x) g = _; rw [hS_cm, S1]
  have dG : ∀ g, hG (sDD (cm P h x) f) g = hG h g := fun g => by show hG (cm P h x) g = _; rw [hG_cm]
  have dD : ∀ g, g < pN P → hD (sDD (cm P h x) f) g = 0 := hf
  generalize hh2 : sDD (cm P h x) f = h2 at *
  have ncap : ∀ c, t.1 = some c → c ≠ x := fun c e z => hA (by rw [← z]; exact (S3 c e).2.2.2.2)
  have bits : ∀ y, y < pN P → y ∉ A ++ [x] → ∀ c, c < pN P → hS h2 c / 2 ^ y % 2 = 0 := fun y hy hyA c hc => by
    obtain ⟨m1, m2⟩ := (mem y).mp hyA
    have := S6 y hy m1 c hc
    rw [dS]
    split
    · have tb : ∀ x j : Nat, x / 2 ^ j % 2 = 0 ↔ x.testBit j = false := fun x j => by
        rw [Nat.testBit_eq_decide_div_mod_eq, decide_eq_false_iff_not]; omega
      rw [tb] at this ⊢
      rw [Nat.testBit_or, this, Nat.testBit_two_pow, Bool.false_or, decide_eq_false_iff_not]
      exact fun z => m2 z.symm
    · exact this
  have lt7 : ∀ g, g < pN P → hS h2 g < 2 ^ 7 := fun g hg => by
    rw [dS]
    split
    · exact or_lt7 (S7 g hg).2.1 (by omega)
    · exact (S7 g hg).2.1
  have bn : ∀ g, g < pN P → ∀ c, hB h2 g = some c → c < pN P := fun g hg c e => by
    rw [dB] at e
    cases ec : t.1 with
    | none => rw [ec] at e; exact (S7 g hg).2.2 c e
    | some c0 =>
      rw [ec] at e
      simp only at e
      split at e
      · cases e; exact (S3 _ ec).1
      · exact (S7 g hg).2.2 c e
  have none' : ∀ g, g < pN P → g ∉ A ++ [x] → hB h2 g = none ∧ hS h2 g = 0 := fun g hg hgA => by
    obtain ⟨m1, m2⟩ := (mem g).mp hgA
    obtain ⟨y1, y2⟩ := S5 g hg m1
    constructor
    · rw [dB]
      cases ec : t.1 with
      | none => exact y1
      | some c0 => simp only; rw [if_neg m2]; exact y1
    · rw [dS, if_neg (fun z => m1 (S3 g z).2.2.2.2)]; exact y2
  by_cases kb : pK P x = 2
  · rw [if_pos kb] at dC es
    have dW' : ∀ g, hW h2 g = if g = x then 2 else hW h g := fun g => by rw [dW, if_pos kb]
    rw [ps3_id (fun g hg z => z.2.1 (by
      have w := z.1
      rw [dW'] at w
      split at w
      · cases w
      · rw [dC]; exact S4 g hg w)) (pN P) (Nat.le_refl _), es]
    refine ⟨dC, fun g hg => (dG g).trans (S2 g hg), fun c e => ?_, fun g hg w => ?_, none', bits, fun g hg => ⟨?_, lt7 g hg, bn g hg⟩⟩
    · have e : t.1 = some c := e
      obtain ⟨z1, z2, z3, z4, z5⟩ := S3 c e
      have hcx := ncap c e
      refine ⟨z1, by rw [dW', if_neg hcx]; exact z2, ?_, ?_, List.mem_append_left _ z5⟩
      · rw [dB, e]; simp only; rw [if_neg hcx]; exact z3
      · rw [dS, if_pos e, tps_or (S6 x hx hA c z1), if_pos hx, z4]
    · rw [dW'] at w
      split at w
      · cases w
      · exact S4 g hg w
    · rw [dW']
      split
      · decide
      · exact (S7 g hg).1
  · rw [if_neg kb] at dC es
    have dW' : ∀ g, hW h2 g = if g = x then 1 else hW h g := fun g => by rw [dW, if_neg kb]
    have Sx : hS h2 x = 0 := by rw [dS, if_neg (fun z => ncap x z rfl)]; exact (S5 x hx hA).2
    rw [es]
    cases ec : t.1 with
    | none =>
      rw [ps3_id (fun g hg z => z.2.1 (by
        have w := z.1
        rw [dW'] at w
        split at w
        · rename_i y; rw [dC, y]
        · have := S4 g hg w; rw [ec] at this; cases this)) (pN P) (Nat.le_refl _)]
      refine ⟨dC, fun g hg => (dG g).trans (S2 g hg), fun c e => ?_, fun g hg w => ?_, none', bits, fun g hg => ⟨?_, lt7 g hg, bn g hg⟩⟩
      · cases e
        refine ⟨hx, by rw [dW', if_pos rfl], ?_, by rw [Sx, tps_0], List.mem_append_right _ (List.mem_singleton.mpr rfl)⟩
        rw [dB, ec]; exact (S5 x hx hA).1
      · rw [dW'] at w
        split at w
        · rename_i y; rw [y]
        · have := S4 g hg w; rw [ec] at this; cases this
      · rw [dW']
        split
        · decide
        · exact (S7 g hg).1
    | some c =>
      obtain ⟨z1, z2, z3, z4, z5⟩ := S3 c ec
      have hcx := ncap c ec
      have one : ∀ g, g < pN P → ((hW h2 g = 1 ∧ ¬ hC h2 = some g ∧ hD h2 g = 0) ↔ g = c) := fun g hg => by
        constructor
        · intro z
          have w := z.1
          rw [dW'] at w
          split at w
          · rename_i y; exact absurd (by rw [dC, y]) z.2.1
          · have := S4 g hg w; rw [ec] at this; exact (Option.some.inj this).symm
        · intro z
          subst z
          exact ⟨by rw [dW', if_neg hcx]; exact z2, fun w => by rw [dC] at w; exact hcx (Option.some.inj w).symm, dD _ hg⟩
      rw [ps3_one one (pN P) (Nat.le_refl _), if_pos z1]
      obtain ⟨x1, x2, x3, x4, x5, x6, x7, x8⟩ := hX_fr P h2 c
      have bC : hB h2 c = t.2.1 := by rw [dB, ec]; simp only; rw [if_neg hcx]; exact z3
      have eT : tps P (hS h2 c) (pN P) (hG h2 c) = t.2.2.2 c + (t.2.2.1 + nI (pT P x)) := by
        rw [tps_add, dG, S2 c z1, dS, if_pos ec, tps_or (S6 x hx hA c z1), if_pos hx, z4]
      refine ⟨x2.trans dC, fun g hg => ?_, fun c' e => ?_, fun g hg w => ?_, fun g hg hgA => by rw [x7, x8]; exact none' g hg hgA, fun y hy hyA c' hc' => by rw [x8]; exact bits y hy hyA c' hc', fun g hg => ⟨?_, by rw [x8]; exact lt7 g hg, by rw [x7]; exact bn g hg⟩⟩
      · have base : ∀ j, j < pN P → va_up (hG h2) c (tps P (hS h2 c) (pN P) (hG h2 c)) j = va_up t.2.2.2 c (t.2.2.2 c + (t.2.2.1 + nI (pT P x))) j := fun j hj => by
          by_cases y : j = c
          · subst y; rw [up_s, up_s]; exact eT
          · rw [up_n y, up_n y, dG]; exact S2 j hj
        show hG (fr P h2 c) g = payO t.2.2.2 (some c) t.2.1 (t.2.2.1 + nI (pT P x)) g
        unfold fr payO
        rw [bC]
        cases eb : t.2.1 with
        | none => exact base g hg
        | some b =>
          have hbn : b < pN P := bn c z1 b (by rw [bC]; exact eb)
          have bc := base c z1
          rw [up_s, up_s] at bc
          have e1 : hG (frG P h2 c) = va_up (hG h2) c (tps P (hS h2 c) (pN P) (hG h2 c)) := rfl
          have e2 : ∀ j, j < pN P → hG (sG (frG P h2 c) c (hG (frG P h2 c) c - hG (frG P h2 c) c / 2)) j = va_up (va_up t.2.2.2 c (t.2.2.2 c + (t.2.2.1 + nI (pT P x)))) c ((t.2.2.2 c + (t.2.2.1 + nI (pT P x))) - (t.2.2.2 c + (t.2.2.1 + nI (pT P x))) / 2) j := fun j hj => by
            show va_up (hG (frG P h2 c)) c _ j = _
            rw [e1, up_s, bc]
            by_cases y : j = c
            · subst y; rw [up_s, up_s]
            · have := base j hj
              rw [bc] at this
              exact (up_n y).trans (this.trans (up_n y).symm)
          show va_up (hG (sG (frG P h2 c) c (hG (frG P h2 c) c - hG (frG P h2 c) c / 2))) b _ g = va_up _ b _ g
          rw [e2 b hbn]
          have e3 : hG (frG P h2 c) c = t.2.2.2 c + (t.2.2.1 + nI (pT P x)) := by rw [e1, up_s]; exact bc
          by_cases y : g = b
          · subst y; rw [up_s, up_s, e3]
          · rw [up_n y, up_n y]; exact e2 g hg
      · cases e
        refine ⟨hx, by rw [x3, up_n (fun z => hcx z.symm), dW', if_pos rfl], ?_, by rw [x8, Sx, tps_0], List.mem_append_right _ (List.mem_singleton.mpr rfl)⟩
        rw [x7, dB, ec]
        show (if x = x then some c else hB h x) = some c
        exact if_pos rfl
      · rw [x3] at w
        by_cases y : g = c
        · subst y; rw [up_s] at w; cases w
        · rw [up_n y, dW'] at w
          split at w
          · rename_i yy; rw [yy]
          · have := S4 g hg w; rw [ec] at this; exact absurd (Option.some.inj this).symm y
      · rw [x3]
        by_cases y : g = c
        · subst y; rw [up_s]; decide
        · rw [up_n y, dW']
          split
          · decide
          · exact (S7 g hg).1
