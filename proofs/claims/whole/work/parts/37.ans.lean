/-! arguments in a range -/
def rg (lo hi : Nat) (p : Int32) : Option Nat := if (lo : Int) ≤ p.toInt ∧ p.toInt ≤ hi then some p.toInt.toNat else none
theorem rg_cases (lo hi : Nat) (h31 : hi < 2 ^ 31) (p : Int32) : (rg lo hi p = none ∧ (p.toInt < lo ∨ (hi : Int) < p.toInt)) ∨ ∃ c, rg lo hi p = some c ∧ lo ≤ c ∧ c ≤ hi ∧ p = nI c := by
  unfold rg
  by_cases c : (lo : Int) ≤ p.toInt ∧ p.toInt ≤ hi
  · rw [if_pos c]
    refine Or.inr ⟨_, rfl, by omega, by omega, nI_ofInt (by omega) (by omega)⟩
  · rw [if_neg c]
    exact Or.inl ⟨rfl, by omega⟩
def gi (n : Nat) (p : Int32) : Option Nat := if 0 ≤ p.toInt ∧ p.toInt < n then some p.toInt.toNat else none
theorem gi_some {n g : Nat} (hg : g < n) (hn : n < 2 ^ 31) : gi n (nI g) = some g := by
  unfold gi
  rw [nI_toInt (by omega), if_pos (by omega)]; simp
theorem gi_none {n : Nat} {p : Int32} (hn : n < 2 ^ 31) (h : ∀ g, g < n → ¬ p = nI g) : gi n p = none := by
  unfold gi
  by_cases c : 0 ≤ p.toInt ∧ p.toInt < n
  · exact absurd (nI_ofInt (x := p) (k := p.toInt.toNat) (by omega) (by omega)) (h _ (by omega))
  · rw [if_neg c]
/-! the answers, and what stands behind them -/
def fWrite (s : ST) (p : Int32) : Int32 × ST := match rg 32 126 p with
  | none => (-1, s)
  | some c => if (xX s).length = 200 then (-3, s) else (nI ((xX s).length + 1), mST (xP s) (xH s) (xU s) (xK s) (xX s ++ [c]) (xE s))
def fWipe (s : ST) : Int32 × ST := (nI (xX s).length, mST (xP s) (xH s) (xU s) (xK s) [] (xE s))
def fGuest (s : ST) (p q : Int32) : Int32 × ST := match gi (pN (xP s)) p with
  | none => (-1, s)
  | some g => if q = 0 then (nI (pK (xP s) g), s) else if q = 1 then (nI (pD (xP s) g), s) else if q = 2 then (nI (pT (xP s) g), s) else if q = 3 then (nI (pS (xP s) g), s) else (-1, s)
def fState (s : ST) (p q : Int32) : Int32 × ST := match gi (pN (xP s)) p with
  | none => (-1, s)
  | some g => if q = 0 then (nI (hW (xH s) g), s) else if q = 1 then (nI (hU (xH s) g), s) else if q = 2 then (nI (hR (xH s) g), s) else if q = 3 then (nI (hD (xH s) g), s) else if q = 4 then (oI (hB (xH s) g), s) else if q = 5 then (nI (hS (xH s) g), s) else if q = 6 then (hG (xH s) g, s) else (-1, s)
/-- an act: the house as it was is minded -/
def act (s : ST) (h : HT) : ST := mST (xP s) h (put 8 (xU s) (xH s)) (xK s) (xX s) (xE s)
def fPass (s : ST) (p : Int32) : Int32 × ST := match rg 1 24 p with
  | none => (-1, s)
  | some c => (nI (hT (itp (xP s) c (xH s))), act s (itp (xP s) c (xH s)))
def fBook (s : ST) (p q : Int32) : Int32 × ST := match gi (pN (xP s)) p with
  | none => (-1, s)
  | some g => match rg 0 40 q with
    | none => (-1, s)
    | some x => if hW (xH s) g = 0 ∧ hT (xH s) ≤ x then (nI (hU (xH s) g), act s (sU (xH s) g x)) else (-2, s)
def fCall (s : ST) (p : Int32) : Int32 × ST := match gi (pN (xP s)) p with
  | none => (-1, s)
  | some g => if hW (xH s) g = 0 then (nI (cW (sW (xH s) g 3) 0 (pN (xP s))), act s (sW (xH s) g 3)) else (-2, s)
def fChange (s : ST) (p q : Int32) : Int32 × ST := match gi (pN (xP s)) p, gi (pN (xP s)) q with
  | some g, some j => if g = j then (-1, s) else if hW (xH s) g = 0 ∧ hW (xH s) j = 0 then (nI (hR (swp (xH s) g j) g), act s (swp (xH s) g j)) else (-2, s)
  | _, _ => (-1, s)
def fUndo (s : ST) : Int32 × ST := match (xU s).getLast? with
  | none => (-2, s)
  | some h => (nI (xU s).dropLast.length, mST (xP s) h (xU s).dropLast (xK s) (xX s) (xE s))
def fSee (s : ST) (p q : Int32) : Int32 × ST := match gi (pN (xP s)) p with
  | none => (-1, s)
  | some g => match rg 0 200 q with
    | none => (-1, s)
    | some c => if (xE s).length = 7 then (-3, s) else (nI ((xE s).length + 1), mST (xP s) (xH s) (xU s) (xK s) (xX s) (xE s ++ [(g, c)]))
def fForget (s : ST) : Int32 × ST := (nI (xE s).length, mST (xP s) (xH s) (xU s) (xK s) (xX s) [])
def fKeep (s : ST) : Int32 × ST := if (xK s).length = 2 then (-3, s) else (nI ((xK s).length + 1), mST (xP s) (xH s) (xU s) (xK s ++ [xH s]) (xX s) (xE s))
def fBack (s : ST) : Int32 × ST := match (xK s).getLast? with
  | none => (-2, s)
  | some h => (nI (xK s).dropLast.length, mST (xP s) h [] (xK s).dropLast (xX s) (xE s))
def fCount (s : ST) (p : Int32) : Int32 × ST :=
  (if p = 0 then nI (pN (xP s)) else if p = 1 then nI (hT (xH s)) else if p = 2 then nI (cW (xH s) 0 (pN (xP s))) else if p = 3 then nI (cW (xH s) 1 (pN (xP s))) else if p = 4 then nI (cW (xH s) 2 (pN (xP s))) else if p = 5 then nI (cW (xH s) 3 (pN (xP s))) else if p = 6 then oI (hC (xH s)) else if p = 7 then smG (xH s) (pN (xP s)) else if p = 8 then nI (smD (xH s) (pN (xP s))) else if p = 9 then nI (xE s).length else if p = 10 then nI (xU s).length else if p = 11 then nI (xK s).length else if p = 12 then nI (xX s).length else -1, s)
/-! the class answers so -/
theorem i_lt {x y : Int32} : x < y ↔ x.toInt < y.toInt := Int32.lt_iff_toInt_lt
theorem i_le {x y : Int32} : x ≤ y ↔ x.toInt ≤ y.toInt := Int32.le_iff_toInt_le
section
variable {T : Nat} {s : ST} {M : Mem}
theorem x_write {p : Int32} {post : Int32 → Mem → Prop} (I : IX T s) (R : RX s M) (k : ∀ M', RX (fWrite s p).2 M' → post (fWrite s p).1 M') : P_NB_write M p post := by
  obtain ⟨R1, R2, R3, R4, ⟨R5, R6⟩, R7, R8, R9⟩ := id R
  have hl : (xX s).length ≤ 200 := I.2.2.2.2.2.2.2.1
  unfold P_NB_write B_NB_write_i
  unfold fWrite at k
  rcases rg_cases 32 126 (by decide) p with ⟨e, c⟩ | ⟨c, e, c1, c2, rfl⟩
  · rw [e] at k
    have k := k M R
    refine br_c (fun _ => k) (fun d => br_c (fun d2 => ?_) (fun _ => k))
    rw [i_lt] at d
    rw [i_le] at d2
    have d : ¬ p.toInt < 32 := d
    have d2 : p.toInt ≤ 126 := d2
    omega
  · rw [e] at k
    refine br_f (nI_nlt (a := c) (b := 32) c1 (by omega)) (br_t (nI_le (b := 126) c2 (by decide)) ?_)
    unfold P_Script_append B_Script_append_i
    rw [R5]
    refine br_f (nI_pos (by omega)) ?_
    by_cases z : (xX s).length = 200
    · have k := k
      simp only [if_pos z] at k
      exact br_f (nI_nlt (a := (xX s).length) (b := 200) (by omega) (by omega)) (br_t rfl (k M R))
    · simp only [if_neg z] at k
      refine br_t (nI_lt (b := 200) (by omega) (by decide)) ⟨vin (by omega) (by decide), ?_⟩
      simp (disch := omega) only [cl, forall_eq, ms_k, R5, nI_1]
      refine br_f (by decide) ?_
      rw [ms_s]
      refine k _ ⟨R1.of (fun q _ _ => ?_), R2.of (fun q _ _ => ?_), R3.of (fun q _ _ => ?_), R4.of (fun q _ _ => ?_), ⟨?_, fun i x hx => ?_⟩, ?_, ?_, ?_⟩
      · rw [mset_ne (by omega), mset_ne (by omega)]
      · rw [mset_ne (by omega), mset_ne (by omega)]
      · rw [mset_ne (by omega), mset_ne (by omega)]
      · rw [mset_ne (by omega), mset_ne (by omega)]
      · rw [ms_s]; show _ = nI (xX s ++ [c]).length; rw [List.length_append]; rfl
      · have hx : (xX s ++ [c])[i]? = some x := hx
        rw [ms_k (by decide)]
        by_cases zz : i = (xX s).length
        · subst zz
          rw [List.getElem?_append_right (Nat.le_refl _), Nat.sub_self] at hx
          cases hx
          rw [ms_s]
        · have hi : i < (xX s ++ [c]).length := (List.getElem?_eq_some_iff.mp hx).1
          rw [List.length_append] at hi
          have hi : i < (xX s).length + 1 := hi
          rw [List.getElem?_append_left (by omega)] at hx
          rw [ms_j zz]; exact R6 i x hx
      · unfold SN; rw [mset_ne (by decide), mset_ne (by decide), mset_ne (by decide), mset_ne (by decide), mset_ne (by decide), mset_ne (by decide)]; exact R7
      · unfold DOK; rw [mset_ne (by decide), mset_ne (by decide), mset_ne (by decide), mset_ne (by decide)]; exact R8
      · unfold SOK; rw [mset_ne (by decide), mset_ne (by decide), mset_ne (by decide), mset_ne (by decide)]; exact R9
end
