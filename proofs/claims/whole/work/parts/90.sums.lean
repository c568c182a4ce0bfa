/-! sums over sets -/
def sm (φ : Nat → Nat) : Nat → Nat
  | 0 => 0
  | a + 1 => sm φ a + φ a
theorem sm_add (φ : Nat → Nat) (n : Nat) : ∀ m, sm φ (n + m) = sm φ n + sm (fun a => φ (a + n)) m
  | 0 => rfl
  | m + 1 => by
    show sm φ (n + m) + φ (n + m) = sm φ n + (sm (fun a => φ (a + n)) m + φ (m + n))
    rw [sm_add φ n m, Nat.add_comm m n, Nat.add_assoc]
theorem sm_ext {φ ψ : Nat → Nat} : ∀ m, (∀ a, a < m → φ a = ψ a) → sm φ m = sm ψ m
  | 0, _ => rfl
  | m + 1, h => by
    show sm φ m + φ m = sm ψ m + ψ m
    rw [sm_ext m (fun a ha => h a (by omega)), h m (by omega)]
theorem sm_mul (φ : Nat → Nat) (c : Nat) : ∀ m, sm (fun a => φ a * c) m = c * sm φ m
  | 0 => (Nat.mul_zero c).symm
  | m + 1 => by
    show sm (fun a => φ a * c) m + φ m * c = c * (sm φ m + φ m)
    rw [sm_mul φ c m, Nat.mul_add, Nat.mul_comm (φ m) c]
theorem sm_0 {φ : Nat → Nat} : ∀ m, (∀ a, a < m → φ a = 0) → sm φ m = 0
  | 0, _ => rfl
  | m + 1, h => by
    show sm φ m + φ m = 0
    rw [sm_0 m (fun a ha => h a (by omega)), h m (by omega)]
/-- over all sets of those booked, each with its weight -/
def tT (h : HT) (x : Nat) : Nat → ((Nat → Nat) → Nat) → Nat
  | 0, F => F (hW h)
  | i + 1, F => if hW h i = 0 then (10 - x) * tT h x i (fun f => F (va_up f i 0)) + x * tT h x i (fun f => F (va_up f i 3)) else tT h x i F
theorem bit_lo {a i j : Nat} (hj : j < i) : (a + 2 ^ i) / 2 ^ j % 2 = a / 2 ^ j % 2 := by
  obtain ⟨d, rfl⟩ : ∃ d, i = j + 1 + d := ⟨i - j - 1, by omega⟩
  have : 2 ^ (j + 1 + d) = 2 ^ j * (2 * 2 ^ d) := by rw [Nat.pow_add, Nat.pow_succ, Nat.mul_assoc]
  rw [this, Nat.add_mul_div_left _ _ (Nat.two_pow_pos j), Nat.add_mul_mod_self_left]
theorem bit_hi {a i : Nat} (ha : a < 2 ^ i) : a / 2 ^ i % 2 = 0 ∧ (a + 2 ^ i) / 2 ^ i % 2 = 1 := by
  refine ⟨by rw [Nat.div_eq_of_lt ha], ?_⟩
  rw [Nat.add_div_right _ (Nat.two_pow_pos i), Nat.div_eq_of_lt ha]
/-- the model's way: a set of all guests -/
def mF (h : HT) (a : Nat) : Nat → Nat → Nat
  | 0 => hW h
  | i + 1 => if hW h i = 0 then va_up (mF h a i) i (if a / 2 ^ i % 2 = 1 then 3 else 0) else mF h a i
def mw (h : HT) (x a : Nat) : Nat → Nat
  | 0 => 1
  | i + 1 => mw h x a i * (if hW h i = 0 then (if a / 2 ^ i % 2 = 1 then x else 10 - x) else if a / 2 ^ i % 2 = 1 then 0 else 1)
theorem mF_hi (h : HT) {a i : Nat} : ∀ j, j ≤ i → mF h (a + 2 ^ i) j = mF h a j
  | 0, _ => rfl
  | j + 1, hj => by unfold mF; rw [mF_hi h j (by omega), bit_lo (by omega)]
theorem mw_hi (h : HT) (x : Nat) {a i : Nat} : ∀ j, j ≤ i → mw h x (a + 2 ^ i) j = mw h x a j
  | 0, _ => rfl
  | j + 1, hj => by unfold mw; rw [mw_hi h x j (by omega), bit_lo (by omega)]
theorem m_sum (h : HT) (x : Nat) : ∀ (i : Nat) (F : (Nat → Nat) → Nat), sm (fun a => mw h x a i * F (mF h a i)) (2 ^ i) = tT h x i F
  | 0, F => by
    show 0 + 1 * F (hW h) = F (hW h)
    rw [Nat.zero_add, Nat.one_mul]
  | i + 1, F => by
    rw [Nat.pow_succ, Nat.mul_two, sm_add]
    unfold tT
    by_cases c : hW h i = 0
    · rw [if_pos c, ← m_sum h x i, ← m_sum h x i, ← sm_mul, ← sm_mul]
      refine congr (congrArg _ (sm_ext _ (fun a ha => ?_))) (sm_ext _ (fun a ha => ?_))
      · obtain ⟨b1, b2⟩ := bit_hi ha
        show mw h x a i * (if hW h i = 0 then (if a / 2 ^ i % 2 = 1 then x else 10 - x) else _) * F (if hW h i = 0 then _ else _) = _
        rw [if_pos c, if_pos c, b1, if_neg (by decide), if_neg (by decide), Nat.mul_assoc, Nat.mul_assoc, Nat.mul_comm (10 - x)]
      · obtain ⟨b1, b2⟩ := bit_hi ha
        show mw h x (a + 2 ^ i) i * (if hW h i = 0 then (if (a + 2 ^ i) / 2 ^ i % 2 = 1 then x else 10 - x) else _) * F (if hW h i = 0 then va_up (mF h (a + 2 ^ i) i) i _ else _) = _
        rw [if_pos c, if_pos c, b2, if_pos rfl, if_pos rfl, mw_hi h x i (Nat.le_refl _), mF_hi h i (Nat.le_refl _), Nat.mul_assoc, Nat.mul_assoc, Nat.mul_comm x]
    · rw [if_neg c, ← m_sum h x i]
      have z : sm (fun a => mw h x (a + 2 ^ i) (i + 1) * F (mF h (a + 2 ^ i) (i + 1))) (2 ^ i) = 0 := sm_0 _ (fun a ha => by
        obtain ⟨b1, b2⟩ := bit_hi ha
        show mw h x (a + 2 ^ i) i * (if hW h i = 0 then _ else if (a + 2 ^ i) / 2 ^ i % 2 = 1 then 0 else 1) * _ = 0
        rw [if_neg c, b2, if_pos rfl, Nat.mul_zero, Nat.zero_mul])
      rw [z, Nat.add_zero]
      refine sm_ext _ (fun a ha => ?_)
      obtain ⟨b1, b2⟩ := bit_hi ha
      show mw h x a i * (if hW h i = 0 then _ else if a / 2 ^ i % 2 = 1 then 0 else 1) * F (if hW h i = 0 then _ else _) = _
      rw [if_neg c, if_neg c, b1, if_neg (by decide), Nat.mul_one]
/-- the class's way: a set of those booked -/
def cF (h : HT) (w : List Nat) (a : Nat) : Nat → Nat → Nat
  | 0 => hW h
  | k + 1 => va_up (cF h w a k) (w.getD k 0) (if a / 2 ^ k % 2 = 1 then 3 else 0)
def cw (x a : Nat) : Nat → Nat
  | 0 => 1
  | k + 1 => cw x a k * (if a / 2 ^ k % 2 = 1 then x else 10 - x)
theorem cF_hi (h : HT) (w : List Nat) {a i : Nat} : ∀ j, j ≤ i → cF h w (a + 2 ^ i) j = cF h w a j
  | 0, _ => rfl
  | j + 1, hj => by unfold cF; rw [cF_hi h w j (by omega), bit_lo (by omega)]
theorem cw_hi (x : Nat) {a i : Nat} : ∀ j, j ≤ i → cw x (a + 2 ^ i) j = cw x a j
  | 0, _ => rfl
  | j + 1, hj => by unfold cw; rw [cw_hi x j (by omega), bit_lo (by omega)]
theorem cF_ap (h : HT) (w : List Nat) (g a : Nat) : ∀ k, k ≤ w.length → cF h (w ++ [g]) a k = cF h w a k
  | 0, _ => rfl
  | k + 1, hk => by
    unfold cF
    rw [cF_ap h w g a k (by omega), List.getD_eq_getElem?_getD, List.getElem?_append_left (by omega), ← List.getD_eq_getElem?_getD]
theorem c_sum (h : HT) (x : Nat) : ∀ (i : Nat) (F : (Nat → Nat) → Nat), sm (fun a => cw x a (bkI h i).length * F (cF h (bkI h i) a (bkI h i).length)) (2 ^ (bkI h i).length) = tT h x i F
  | 0, F => by
    show 0 + 1 * F (hW h) = F (hW h)
    rw [Nat.zero_add, Nat.one_mul]
  | i + 1, F => by
    have bs := bkI_s h i
    unfold tT
    by_cases c : hW h i = 0
    · rw [if_pos c] at bs
      rw [if_pos c, bs, List.length_append, show ([i] : List Nat).length = 1 from rfl, Nat.pow_succ, Nat.mul_two, sm_add, ← c_sum h x i, ← c_sum h x i, ← sm_mul, ← sm_mul]
      have gi' : (bkI h i ++ [i]).getD (bkI h i).length 0 = i := by
        rw [List.getD_eq_getElem?_getD, List.getElem?_append_right (Nat.le_refl _), Nat.sub_self]; rfl
      refine congr (congrArg _ (sm_ext _ (fun a ha => ?_))) (sm_ext _ (fun a ha => ?_))
      · obtain ⟨b1, b2⟩ := bit_hi ha
        show cw x a (bkI h i).length * (if a / 2 ^ (bkI h i).length % 2 = 1 then x else 10 - x) * F (va_up (cF h (bkI h i ++ [i]) a (bkI h i).length) _ (if a / 2 ^ (bkI h i).length % 2 = 1 then 3 else 0)) = _
        rw [b1, if_neg (by decide), if_neg (by decide), gi', cF_ap h _ _ _ _ (Nat.le_refl _), Nat.mul_assoc, Nat.mul_assoc, Nat.mul_comm (10 - x)]
      · obtain ⟨b1, b2⟩ := bit_hi ha
        show cw x (a + 2 ^ (bkI h i).length) (bkI h i).length * (if (a + 2 ^ (bkI h i).length) / 2 ^ (bkI h i).length % 2 = 1 then x else 10 - x) * F (va_up (cF h (bkI h i ++ [i]) (a + 2 ^ (bkI h i).length) (bkI h i).length) _ (if (a + 2 ^ (bkI h i).length) / 2 ^ (bkI h i).length % 2 = 1 then 3 else 0)) = _
        rw [b2, if_pos rfl, if_pos rfl, gi', cF_ap h _ _ _ _ (Nat.le_refl _), cw_hi x _ (Nat.le_refl _), cF_hi h _ _ (Nat.le_refl _), Nat.mul_assoc, Nat.mul_assoc, Nat.mul_comm x]
    · rw [if_neg c] at bs
      rw [if_neg c, bs]
      exact c_sum h x i F
theorem tT_le (h : HT) {x : Nat} (hx : x ≤ 10) : ∀ (i : Nat) (F : (Nat → Nat) → Nat), (∀ f, F f ≤ 1) → tT h x i F ≤ 10 ^ (bkI h i).length
  | 0, F, hF => hF _
  | i + 1, F, hF => by
    have bs := bkI_s h i
    unfold tT
    by_cases c : hW h i = 0
    · rw [if_pos c] at bs
      rw [if_pos c, bs, List.length_append, show ([i] : List Nat).length = 1 from rfl, Nat.pow_succ]
      have h1 := tT_le h hx i (fun f => F (va_up f i 0)) (fun f => hF _)
      have h2 := tT_le h hx i (fun f => F (va_up f i 3)) (fun f => hF _)
      have h3 := Nat.mul_le_mul_left (10 - x) h1
      have h4 := Nat.mul_le_mul_left x h2
      have h5 : (10 - x) * 10 ^ (bkI h i).length + x * 10 ^ (bkI h i).length = 10 ^ (bkI h i).length * 10 := by
        rw [← Nat.add_mul, Nat.sub_add_cancel hx, Nat.mul_comm]
      omega
    · rw [if_neg c] at bs
      rw [if_neg c, bs]
      exact tT_le h hx i F hF
