/-! what is ahead, coming by coming: cap, work, since, free behind, load, all done -/
abbrev OS : Type := Option Nat × ((Nat → Nat) × ((Nat → Nat) × ((Nat → Option Nat) × ((Nat → Nat) × Nat))))
def mO (c : Option Nat) (w s : Nat → Nat) (f : Nat → Option Nat) (l : Nat → Nat) (d : Nat) : OS := (c, w, s, f, l, d)
def oC (o : OS) : Option Nat := o.1
def oW (o : OS) : Nat → Nat := o.2.1
def oS (o : OS) : Nat → Nat := o.2.2.1
def oF (o : OS) : Nat → Option Nat := o.2.2.2.1
def oL (o : OS) : Nat → Nat := o.2.2.2.2.1
def oD (o : OS) : Nat := o.2.2.2.2.2
def lvf (P : PT) (w g : Nat) : Nat := max 1 ((w + pS P g - 1) / pS P g)
def bgF (P : PT) (h : HT) (g : Nat) : Option Nat := if hW h g = 2 then some 0 else if hW h g = 1 ∧ ¬ hC h = some g then some (lvf P (hD h g) g) else none
def bgD (P : PT) (h : HT) : Nat → Nat
  | 0 => 0
  | i + 1 => if hW h i = 1 ∧ ¬ hC h = some i then max (bgD P h i) (lvf P (hD h i) i) else bgD P h i
def oB (P : PT) (h : HT) : OS := mO (hC h) (hD h) (fun _ => hT h) (bgF P h) (fun _ => 0) (bgD P h (pN P))
def mtW (P : PT) (h : HT) (o : OS) (c g : Nat) : Nat := (oW o c - pS P c * (hU h g - oS o c)) + brg P h g
def mt (P : PT) (h : HT) (o : OS) (g : Nat) : OS := match oC o with
  | none => if pK P g = 2 then mO none (oW o) (oS o) (va_up (oF o) g (some (hU h g - hT h + 1))) (oL o) (max (oD o) (hU h g - hT h + 1))
      else mO (some g) (oW o) (oS o) (oF o) (oL o) (max (oD o) (hU h g - hT h + 1))
  | some c => if pK P g = 2 then mO (some c) (va_up (oW o) c (mtW P h o c g)) (va_up (oS o) c (hU h g)) (va_up (oF o) g (some (hU h g - hT h + 1))) (va_up (oL o) c (oL o c + brg P h g)) (max (oD o) (hU h g - hT h + 1))
      else mO (some g) (va_up (oW o) c (mtW P h o c g)) (va_up (oS o) c (hU h g)) (va_up (oF o) c (some (hU h g - hT h + lvf P (mtW P h o c g) c))) (va_up (oL o) c (oL o c + brg P h g)) (max (max (oD o) (hU h g - hT h + 1)) (hU h g - hT h + lvf P (mtW P h o c g) c))
theorem lvf_1 (P : PT) (w g : Nat) : 1 ≤ lvf P w g := Nat.le_max_left _ _
theorem lvf_le {P : PT} {w g q : Nat} (hs : 1 ≤ pS P g) (h1 : 1 ≤ q) : lvf P w g ≤ q ↔ w ≤ pS P g * q := by
  unfold lvf
  have e : (w + pS P g - 1) / pS P g ≤ q ↔ w ≤ pS P g * q := by
    constructor
    · intro z
      have := Nat.lt_mul_div_succ (w + pS P g - 1) (show 0 < pS P g by omega)
      have h2 : pS P g * ((w + pS P g - 1) / pS P g + 1) ≤ pS P g * (q + 1) := Nat.mul_le_mul_left _ (by omega)
      have h3 : pS P g * (q + 1) = pS P g * q + pS P g := Nat.mul_succ _ _
      omega
    · intro z
      have h2 : w + pS P g - 1 < pS P g * (q + 1) := by rw [Nat.mul_succ]; omega
      have := (Nat.div_lt_iff_lt_mul (show 0 < pS P g by omega)).mpr (by rw [Nat.mul_comm]; exact h2)
      omega
  omega
/-- a set has one more -/
theorem smS_or {P : PT} {h : HT} {m g : Nat} (hm : m / 2 ^ g % 2 = 0) : ∀ i, smS P h (m ||| 2 ^ g) i = smS P h m i + (if g < i then brg P h g else 0)
  | 0 => by simp [smS]
  | i + 1 => by
    unfold smS
    rw [smS_or hm i]
    have tb : ∀ x j : Nat, x / 2 ^ j % 2 = 1 ↔ x.testBit j = true := fun x j => by
      rw [Nat.testBit_eq_decide_div_mod_eq, decide_eq_true_iff]
    have e : (m ||| 2 ^ g) / 2 ^ i % 2 = 1 ↔ (m / 2 ^ i % 2 = 1 ∨ g = i) := by
      rw [tb, tb, Nat.testBit_or, Bool.or_eq_true, Nat.testBit_two_pow, decide_eq_true_iff]
    by_cases z : g = i
    · subst z
      rw [if_pos (e.mpr (Or.inr rfl)), if_neg (Nat.lt_irrefl _), if_neg (show ¬ m / 2 ^ g % 2 = 1 by omega), if_pos (Nat.lt_succ_self _)]
    · by_cases y : m / 2 ^ i % 2 = 1
      · rw [if_pos (e.mpr (Or.inl y)), if_pos y]
        split <;> split <;> omega
      · rw [if_neg (fun q => (e.mp q).elim y z), if_neg y]
        split <;> split <;> omega
/-- nobody has seen to one who is booked -/
def NS (P : PT) (h : HT) : Prop := ∀ g, g < pN P → hW h g = 0 → ∀ c, c < pN P → hS h c / 2 ^ g % 2 = 0
theorem ns_cm {P : PT} {h : HT} {g : Nat} (s : NS P h) : NS P (cm P h g) := by
  intro j hj e c hc
  rw [hW_cm] at e
  by_cases z : j = g
  · rw [if_pos z] at e; split at e <;> cases e
  · rw [if_neg z] at e
    have := s j hj e c hc
    rw [hS_cm]
    split
    · have tb : ∀ x j : Nat, x / 2 ^ j % 2 = 0 ↔ x.testBit j = false := fun x j => by
        rw [Nat.testBit_eq_decide_div_mod_eq, decide_eq_false_iff_not]; omega
      rw [tb] at this ⊢
      rw [Nat.testBit_or, this, Nat.testBit_two_pow, Bool.false_or, decide_eq_false_iff_not]
      exact fun q => z q.symm
    · exact this
theorem hX_ps2 (P : PT) (h : HT) : ∀ i, hC (ps2 P i h) = hC h ∧ hS (ps2 P i h) = hS h ∧ ∀ g, hD (ps2 P i h) g = if g < i ∧ hW h g = 1 then hD h g - pS P g else hD h g
  | 0 => ⟨rfl, rfl, fun g => by rw [if_neg (by omega)]; rfl⟩
  | i + 1 => by
    obtain ⟨e1, e2, e3⟩ := hX_ps2 P h i
    have e4 := hW_ps2 P h i
    unfold ps2
    by_cases c : hW (ps2 P i h) i = 1
    · rw [if_pos c]
      rw [e4] at c
      refine ⟨e1, e2, fun g => ?_⟩
      show va_up (hD (ps2 P i h)) i (hD (ps2 P i h) i - pS P i) g = _
      by_cases z : g = i
      · subst z; rw [up_s, e3, if_neg (by omega), if_pos ⟨by omega, c⟩]
      · rw [up_n z, e3]
        by_cases y : g < i ∧ hW h g = 1
        · rw [if_pos y, if_pos ⟨by omega, y.2⟩]
        · rw [if_neg y, if_neg (fun q => y ⟨by omega, q.2⟩)]
    · rw [if_neg c]
      rw [e4] at c
      refine ⟨e1, e2, fun g => ?_⟩
      rw [e3]
      by_cases y : g < i ∧ hW h g = 1
      · rw [if_pos y, if_pos ⟨by omega, y.2⟩]
      · rw [if_neg y, if_neg (fun q => y ⟨by have : g ≠ i := fun z => c (by rw [← z]; exact q.2); omega, q.2⟩)]
theorem hX_ps3 (P : PT) (h : HT) : ∀ i, hC (ps3 P i h) = hC h ∧ hS (ps3 P i h) = hS h ∧ hD (ps3 P i h) = hD h ∧ ∀ g, hW (ps3 P i h) g = if g < i ∧ hW h g = 1 ∧ ¬ hC h = some g ∧ hD h g = 0 then 2 else hW h g
  | 0 => ⟨rfl, rfl, rfl, fun g => by rw [if_neg (by omega)]; rfl⟩
  | i + 1 => by
    obtain ⟨e1, e2, e3, e4⟩ := hX_ps3 P h i
    have w : hW (ps3 P i h) i = hW h i := by rw [e4, if_neg (by omega)]
    unfold ps3
    by_cases c : hW (ps3 P i h) i = 1 ∧ ¬ hC (ps3 P i h) = some i ∧ hD (ps3 P i h) i = 0
    · rw [if_pos c]
      rw [w, e1, e3] at c
      obtain ⟨x1, x2, x3, x4, x5, x6, x7, x8⟩ := hX_fr P (ps3 P i h) i
      refine ⟨x2.trans e1, x8.trans e2, x6.trans e3, fun g => ?_⟩
      rw [x3]
      by_cases z : g = i
      · subst z; rw [up_s, if_pos ⟨by omega, c⟩]
      · rw [up_n z, e4]
        by_cases y : g < i ∧ hW h g = 1 ∧ ¬ hC h = some g ∧ hD h g = 0
        · rw [if_pos y, if_pos ⟨by omega, y.2⟩]
        · rw [if_neg y, if_neg (fun q => y ⟨by omega, q.2⟩)]
    · rw [if_neg c]
      rw [w, e1, e3] at c
      refine ⟨e1, e2, e3, fun g => ?_⟩
      rw [e4]
      by_cases y : g < i ∧ hW h g = 1 ∧ ¬ hC h = some g ∧ hD h g = 0
      · rw [if_pos y, if_pos ⟨by omega, y.2⟩]
      · rw [if_neg y, if_neg (fun q => y ⟨by have : g ≠ i := fun z => c (by rw [← z]; exact q.2); omega, q.2⟩)]
theorem ns_pss {P : PT} {h : HT} (s : NS P h) : NS P (pss P h) := by
  have h1 : ∀ i, NS P (ps1 P i h) := fun i => by
    induction i with
    | zero => exact s
    | succ i ih =>
      unfold ps1
      split
      · exact ns_cm ih
      · exact ih
  intro g hg e c hc
  have e3 : hW (ps3 P (pN P) (ps2 P (pN P) (ps1 P (pN P) h))) g = 0 := e
  have e1 := hW_ps3_0 P _ _ g e3
  rw [hW_ps2] at e1
  show hS (ps3 P (pN P) (ps2 P (pN P) (ps1 P (pN P) h))) c / 2 ^ g % 2 = 0
  rw [(hX_ps3 P _ _).2.1, (hX_ps2 P _ _).2.1]
  exact h1 _ g hg e1 c hc
theorem ns_itp {P : PT} {h : HT} (s : NS P h) : ∀ k, NS P (itp P k h)
  | 0 => s
  | k + 1 => ns_pss (ns_itp s k)
