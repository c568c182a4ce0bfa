/-! how a text is read -/
def lc (x : List Nat) (i : Nat) : Nat := x.getD i 0
abbrev fg (x : List Nat) (i : Nat) : Prop := 48 ≤ lc x i ∧ lc x i ≤ 57
def tkN (x : List Nat) (i lo hi sign : Nat) : Option (Nat × Nat) :=
  if fg x i then
    (if fg x (i + 1) then (if lo ≤ (lc x i - 48) * 10 + (lc x (i + 1) - 48) ∧ (lc x i - 48) * 10 + (lc x (i + 1) - 48) ≤ hi ∧ lc x (i + 2) = sign then some (i + 3, (lc x i - 48) * 10 + (lc x (i + 1) - 48)) else none)
     else (if lo ≤ lc x i - 48 ∧ lc x i - 48 ≤ hi ∧ lc x (i + 1) = sign then some (i + 2, lc x i - 48) else none))
  else none
def rdN (x : List Nat) : List (Nat × Nat) → Nat → Option (Nat × List Nat)
  | [], i => some (i, [])
  | q :: qs, i => match tkN x i q.1 q.2 (if qs.length = 0 then 59 else 44) with
    | none => none
    | some r => match rdN x qs r.1 with
      | none => none
      | some t => some (t.1, r.2 :: t.2)
def spG : List (Nat × Nat) := [(0, 3), (0, 40), (1, 30), (0, 20), (1, 9)]
def spR : List (Nat × Nat) := [(0, 9)]
abbrev GT : Type := List (List Nat) × List Nat
def itm (x : List Nat) (i : Nat) (t : GT) : Option (Nat × GT) :=
  if lc x i = 103 then (match rdN x spG (i + 1) with
    | none => none
    | some r => if t.1.length = 7 then none else some (r.1, (t.1 ++ [r.2], t.2)))
  else if lc x i = 114 then (match rdN x spR (i + 1) with
    | none => none
    | some r => if t.2.length = 7 then none else some (r.1, (t.1, t.2 ++ [r.2.getD 0 0])))
  else none
def prs (x : List Nat) : Nat → Nat → GT → Nat ⊕ GT
  | 0, _, t => .inr t
  | f + 1, i, t => if x.length ≤ i then .inr t else match itm x i t with
    | none => .inl i
    | some r => prs x f r.1 r.2
theorem tkN_lt {x : List Nat} {i lo hi sign : Nat} {r : Nat × Nat} (h : tkN x i lo hi sign = some r) : i < r.1 ∧ lo ≤ r.2 ∧ r.2 ≤ hi ∧ r.1 ≤ i + 3 := by
  unfold tkN at h
  split at h
  · split at h
    · split at h
      · rename_i c; cases h; exact ⟨by show i < i + 3; omega, c.1, c.2.1, Nat.le_refl _⟩
      · cases h
    · split at h
      · rename_i c; cases h; exact ⟨by show i < i + 2; omega, c.1, c.2.1, by show i + 2 ≤ i + 3; omega⟩
      · cases h
  · cases h
theorem rdN_lt {x : List Nat} : ∀ (l : List (Nat × Nat)) (i : Nat) (r : Nat × List Nat), rdN x l i = some r → i ≤ r.1 ∧ r.2.length = l.length ∧ r.1 ≤ i + 3 * l.length ∧ ∀ k, k < l.length → (l.getD k (0, 0)).1 ≤ r.2.getD k 0 ∧ r.2.getD k 0 ≤ (l.getD k (0, 0)).2
  | [], i, r, h => by
    cases h
    exact ⟨Nat.le_refl _, rfl, Nat.le_refl _, fun k hk => absurd hk (Nat.not_lt_zero _)⟩
  | q :: qs, i, r, h => by
    unfold rdN at h
    cases e : tkN x i q.1 q.2 (if qs.length = 0 then 59 else 44) with
    | none => rw [e] at h; cases h
    | some a =>
      rw [e] at h
      simp only at h
      cases e2 : rdN x qs a.1 with
      | none => rw [e2] at h; cases h
      | some t =>
        rw [e2] at h
        simp only at h
        cases h
        obtain ⟨a1, a2, a3, a4⟩ := tkN_lt e
        obtain ⟨b1, b2, b3, b4⟩ := rdN_lt qs a.1 t e2
        refine ⟨by show i ≤ t.1; omega, by show (a.2 :: t.2).length = _; rw [List.length_cons, List.length_cons, b2], by show t.1 ≤ _; rw [List.length_cons]; omega, fun k hk => ?_⟩
        cases k with
        | zero => exact ⟨a2, a3⟩
        | succ k =>
          rw [List.length_cons] at hk
          exact b4 k (by omega)
theorem rdN_pos {x : List Nat} {q : Nat × Nat} {qs : List (Nat × Nat)} {i : Nat} {r : Nat × List Nat} (h : rdN x (q :: qs) i = some r) : i < r.1 := by
  unfold rdN at h
  cases e : tkN x i q.1 q.2 (if qs.length = 0 then 59 else 44) with
  | none => rw [e] at h; cases h
  | some a =>
    rw [e] at h
    simp only at h
    cases e2 : rdN x qs a.1 with
    | none => rw [e2] at h; cases h
    | some t =>
      rw [e2] at h
      simp only at h
      cases h
      have a1 := (tkN_lt e).1
      have b1 := (rdN_lt qs a.1 t e2).1
      show i < t.1
      omega
/-- a guest as it is told -/
def okG (l : List Nat) : Prop := l.length = 5 ∧ l.getD 0 0 ≤ 3 ∧ l.getD 1 0 ≤ 40 ∧ (1 ≤ l.getD 2 0 ∧ l.getD 2 0 ≤ 30) ∧ l.getD 3 0 ≤ 20 ∧ (1 ≤ l.getD 4 0 ∧ l.getD 4 0 ≤ 9)
def okT (t : GT) : Prop := t.1.length ≤ 7 ∧ t.2.length ≤ 7 ∧ (∀ l, l ∈ t.1 → okG l) ∧ ∀ r, r ∈ t.2 → r ≤ 9
theorem itm_ok {x : List Nat} {i : Nat} {t : GT} {r : Nat × GT} (o : okT t) (h : itm x i t = some r) : i < r.1 ∧ r.1 ≤ i + 16 ∧ okT r.2 := by
  unfold itm at h
  split at h
  · cases e : rdN x spG (i + 1) with
    | none => rw [e] at h; cases h
    | some a =>
      rw [e] at h
      simp only at h
      split at h
      · cases h
      · rename_i c
        cases h
        obtain ⟨b1, b2, b3, b4⟩ := rdN_lt spG (i + 1) a e
        have b3 : a.1 ≤ i + 1 + 15 := b3
        refine ⟨by show i < a.1; omega, by show a.1 ≤ i + 16; omega, ?_⟩
        refine ⟨by show (t.1 ++ [a.2]).length ≤ 7; rw [List.length_append]; have := o.1; show t.1.length + 1 ≤ 7; omega, o.2.1, fun l hl => ?_, o.2.2.2⟩
        rcases List.mem_append.mp hl with z | z
        · exact o.2.2.1 l z
        · rw [List.mem_singleton.mp z]
          exact ⟨b2, (b4 0 (by decide)).2, (b4 1 (by decide)).2, b4 2 (by decide), (b4 3 (by decide)).2, b4 4 (by decide)⟩
  · split at h
    · cases e : rdN x spR (i + 1) with
      | none => rw [e] at h; cases h
      | some a =>
        rw [e] at h
        simp only at h
        split at h
        · cases h
        · rename_i c
          cases h
          obtain ⟨b1, b2, b3, b4⟩ := rdN_lt spR (i + 1) a e
          have b3 : a.1 ≤ i + 1 + 3 := b3
          refine ⟨by show i < a.1; omega, by show a.1 ≤ i + 16; omega, ?_⟩
          refine ⟨o.1, by show (t.2 ++ [a.2.getD 0 0]).length ≤ 7; rw [List.length_append]; have := o.2.1; show t.2.length + 1 ≤ 7; omega, o.2.2.1, fun l hl => ?_⟩
          rcases List.mem_append.mp hl with z | z
          · exact o.2.2.2 l z
          · rw [List.mem_singleton.mp z]
            exact (b4 0 (by decide)).2
    · cases h
theorem prs_ok {x : List Nat} : ∀ (f i : Nat) (t t' : GT), okT t → prs x f i t = .inr t' → okT t'
  | 0, i, t, t', o, h => by cases h; exact o
  | f + 1, i, t, t', o, h => by
    unfold prs at h
    split at h
    · cases h; exact o
    · cases e : itm x i t with
      | none => rw [e] at h; cases h
      | some r =>
        rw [e] at h
        exact prs_ok f r.1 r.2 t' (itm_ok o e).2.2 h
def ptT (t : GT) : PT := (t.1.length, fun g => (t.1.getD g []).getD 0 0, fun g => (t.1.getD g []).getD 2 0, fun g => (t.1.getD g []).getD 3 0, fun g => (t.1.getD g []).getD 4 0)
def htT (t : GT) : HT := (0, none, fun _ => 0, fun g => (t.1.getD g []).getD 1 0, fun g => t.2.getD g 0, fun _ => 0, fun _ => none, fun _ => 0, fun _ => 0)
def fFault (s : ST) : Int32 × ST := match prs (xX s) 201 0 ([], []) with
  | .inl i => (nI i, s)
  | .inr _ => (-4, s)
def fLay (s : ST) : Int32 × ST := match prs (xX s) 201 0 ([], []) with
  | .inl _ => (-2, s)
  | .inr t => if t.1.length = 0 then (-2, s) else (nI t.1.length, mST (ptT t) (htT t) [] [] (xX s) [])
theorem mem_getD {α : Type} {l : List α} {k : Nat} {d : α} (h : k < l.length) : l.getD k d ∈ l := by
  rw [List.getD_eq_getElem?_getD, List.getElem?_eq_getElem h]
  exact List.getElem_mem h
theorem pw_T {t : GT} (o : okT t) : PW (ptT t) := by
  refine ⟨o.1, fun g hg => ?_⟩
  obtain ⟨-, a1, a2, a3, a4, a5⟩ := o.2.2.1 _ (mem_getD (d := []) hg)
  exact ⟨a1, a3, a4, a5⟩
theorem gv_T {t : GT} (o : okT t) : GV (ptT t) (htT t) := by
  refine ⟨fun c e => (Option.some_ne_none c e.symm).elim, fun g hg => ?_⟩
  obtain ⟨-, a1, a2, a3, a4, a5⟩ := o.2.2.1 _ (mem_getD (d := []) hg)
  refine ⟨Nat.zero_le _, a2, ?_, Nat.zero_le _, fun c e => (Option.some_ne_none c e.symm).elim, by show 0 < 2 ^ 7; decide, fun _ => ⟨Nat.zero_le _, rfl, rfl, rfl⟩, fun e => absurd (show (0 : Nat) = 1 from e) (by decide)⟩
  show t.2.getD g 0 ≤ 9
  by_cases c : g < t.2.length
  · exact o.2.2.2 _ (mem_getD c)
  · rw [List.getD_eq_getElem?_getD, List.getElem?_eq_none (by omega)]
    exact Nat.zero_le _
