/-! the next order -/
def np1 (l : List Nat) : Nat → Option Nat
  | 0 => none
  | i + 1 => if l.getD (i + 1) 0 < l.getD i 0 then np1 l i else some i
def np2 (l : List Nat) (t : Nat) : Nat → Nat
  | 0 => 0
  | j + 1 => if j + 1 ≤ t then j + 1 else if l.getD (j + 1) 0 < l.getD t 0 then np2 l t j else j + 1
def sw2 (l : List Nat) (i j : Nat) : List Nat := (l.set i (l.getD j 0)).set j (l.getD i 0)
def np3 : Nat → List Nat → Nat → Nat → List Nat
  | 0, l, _, _ => l
  | f + 1, l, a, b => if b ≤ a then l else np3 f (sw2 l a b) (a + 1) (b - 1)
def npx (n : Nat) (l : List Nat) : Option (List Nat) := match np1 l (n - 1) with
  | none => none
  | some t => some (np3 n (sw2 l t (np2 l t (n - 1))) (t + 1) (n - 1))
def chkE (n : Nat) (nx : Option (List Nat)) : List (List Nat) → Bool
  | [] => true
  | l :: r => decide (npx n l = (match r with | [] => nx | l' :: _ => some l')) && chkE n nx r
def hdB : List (List Nat) → List Nat → Bool
  | [], _ => false
  | l :: _, x => decide (l = x)
theorem hdB_h {A : List (List Nat)} {x : List Nat} (h : hdB A x = true) : A.head? = some x := by
  cases A with
  | nil => cases h
  | cons l A =>
    have : l = x := of_decide_eq_true h
    rw [this]; rfl
set_option maxRecDepth 100000 in
theorem ck70 : chkE 7 (some [1, 0, 2, 3, 4, 5, 6]) (ext 7 6 [0]) = true := by decide +kernel
set_option maxRecDepth 100000 in
theorem ck71 : chkE 7 (some [2, 0, 1, 3, 4, 5, 6]) (ext 7 6 [1]) = true := by decide +kernel
theorem hd71 : (ext 7 6 [1]).head? = some [1, 0, 2, 3, 4, 5, 6] := hdB_h (by decide +kernel)
set_option maxRecDepth 100000 in
theorem ck72 : chkE 7 (some [3, 0, 1, 2, 4, 5, 6]) (ext 7 6 [2]) = true := by decide +kernel
theorem hd72 : (ext 7 6 [2]).head? = some [2, 0, 1, 3, 4, 5, 6] := hdB_h (by decide +kernel)
set_option maxRecDepth 100000 in
theorem ck73 : chkE 7 (some [4, 0, 1, 2, 3, 5, 6]) (ext 7 6 [3]) = true := by decide +kernel
theorem hd73 : (ext 7 6 [3]).head? = some [3, 0, 1, 2, 4, 5, 6] := hdB_h (by decide +kernel)
set_option maxRecDepth 100000 in
theorem ck74 : chkE 7 (some [5, 0, 1, 2, 3, 4, 6]) (ext 7 6 [4]) = true := by decide +kernel
theorem hd74 : (ext 7 6 [4]).head? = some [4, 0, 1, 2, 3, 5, 6] := hdB_h (by decide +kernel)
set_option maxRecDepth 100000 in
theorem ck75 : chkE 7 (some [6, 0, 1, 2, 3, 4, 5]) (ext 7 6 [5]) = true := by decide +kernel
theorem hd75 : (ext 7 6 [5]).head? = some [5, 0, 1, 2, 3, 4, 6] := hdB_h (by decide +kernel)
set_option maxRecDepth 100000 in
theorem ck76 : chkE 7 none (ext 7 6 [6]) = true := by decide +kernel
theorem hd76 : (ext 7 6 [6]).head? = some [6, 0, 1, 2, 3, 4, 5] := hdB_h (by decide +kernel)
theorem hd70 : (perms 7).head? = some (List.range 7) := hdB_h (by decide +kernel)
set_option maxRecDepth 100000 in
theorem ck_small0 : ∀ n, n < 7 → (chkE n none (perms n) && hdB (perms n) (List.range n)) = true := by decide +kernel
theorem ck_small (n : Nat) (h : n < 7) : chkE n none (perms n) = true ∧ (perms n).head? = some (List.range n) := by
  have := ck_small0 n h
  rw [Bool.and_eq_true] at this
  exact ⟨this.1, hdB_h this.2⟩
theorem chkE_app {n : Nat} {nx : Option (List Nat)} {l' : List Nat} {B : List (List Nat)} (hB : B.head? = some l') (cB : chkE n nx B = true) : ∀ A, chkE n (some l') A = true → chkE n nx (A ++ B) = true
  | [], _ => cB
  | [l], c => by
    cases B with
    | nil => cases hB
    | cons b0 B0 =>
      have e : b0 = l' := Option.some.inj hB
      show (decide (npx n l = some b0) && chkE n nx (b0 :: B0)) = true
      rw [cB, Bool.and_true, e]
      have c : (decide (npx n l = some l') && true) = true := c
      rw [Bool.and_true] at c
      exact c
  | l :: l2 :: A, c => by
    have c : (decide (npx n l = some l2) && chkE n (some l') (l2 :: A)) = true := c
    rw [Bool.and_eq_true] at c
    show (decide (npx n l = some l2) && chkE n nx (l2 :: A ++ B)) = true
    rw [Bool.and_eq_true]
    exact ⟨c.1, chkE_app hB cB (l2 :: A) c.2⟩
theorem hd_app {A B : List (List Nat)} {l : List Nat} (h : A.head? = some l) : (A ++ B).head? = some l := by
  cases A with
  | nil => cases h
  | cons a A => exact h
theorem chk7 : chkE 7 none (perms 7) = true := by
  have e : perms 7 = ext 7 6 [0] ++ (ext 7 6 [1] ++ (ext 7 6 [2] ++ (ext 7 6 [3] ++ (ext 7 6 [4] ++ (ext 7 6 [5] ++ ext 7 6 [6]))))) := by
    show ext 7 7 [] = _
    rw [ext_exk]
    simp only [exk, List.not_mem_nil, if_false, List.nil_append, List.append_nil]
  rw [e]
  exact chkE_app (hd_app hd71) (chkE_app (hd_app hd72) (chkE_app (hd_app hd73) (chkE_app (hd_app hd74) (chkE_app (hd_app hd75) (chkE_app hd76 ck76 _ ck75) _ ck74) _ ck73) _ ck72) _ ck71) _ ck70
theorem chk_perms {n : Nat} (h : n ≤ 7) : chkE n none (perms n) = true ∧ (perms n).head? = some (List.range n) := by
  by_cases c : n = 7
  · subst c; exact ⟨chk7, hd70⟩
  · exact ck_small n (by omega)
theorem ext_len (n : Nat) : ∀ r pre, (ext n r pre).length ≤ n ^ r
  | 0, _ => Nat.le_refl _
  | r + 1, pre => by
    have go : ∀ l : List Nat, (l.flatMap (fun k => if k ∈ pre then [] else ext n r (pre ++ [k]))).length ≤ l.length * n ^ r := fun l => by
      induction l with
      | nil => exact Nat.zero_le _
      | cons a l ih =>
        rw [List.flatMap_cons, List.length_append, List.length_cons, Nat.succ_mul]
        have : (if a ∈ pre then [] else ext n r (pre ++ [a])).length ≤ n ^ r := by
          split
          · exact Nat.zero_le _
          · exact ext_len n r _
        omega
    have := go (List.range n)
    rw [List.length_range] at this
    show ((List.range n).flatMap (fun k => if k ∈ pre then [] else ext n r (pre ++ [k]))).length ≤ n ^ (r + 1)
    rw [Nat.pow_succ, Nat.mul_comm]
    exact this
theorem perms_len {n : Nat} (h : n ≤ 7) : (perms n).length ≤ 823543 := Nat.le_trans (ext_len n n []) ((by decide : ∀ n, n < 8 → n ^ n ≤ 823543) n (by omega))
theorem perms_mem {n : Nat} {l : List Nat} (h : l ∈ perms n) : l.length = n ∧ ∀ x, x ∈ l → x < n := by
  obtain ⟨⟨t, e1, e2⟩, e3⟩ := ext_mem n [] l h (fun x hx => absurd hx List.not_mem_nil)
  exact ⟨by rw [e1]; exact e2, e3⟩
