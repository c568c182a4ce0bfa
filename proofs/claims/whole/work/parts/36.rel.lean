/-! all ways, in their order -/
def ext (n : Nat) : Nat → List Nat → List (List Nat)
  | 0, pre => [pre]
  | r + 1, pre => (List.range n).flatMap (fun k => if k ∈ pre then [] else ext n r (pre ++ [k]))
def perms (n : Nat) : List (List Nat) := ext n n []
/-! what comes: nobody is booked, and nobody here but who wears the cap -/
def isDn (P : PT) (h : HT) : Prop := ∀ g, g < pN P → ¬ hW h g = 0 ∧ (hW h g = 1 → hC h = some g)
def isDnB (P : PT) (h : HT) : Nat → Bool
  | 0 => true
  | i + 1 => isDnB P h i && (decide (¬ hW h i = 0) && (decide (¬ hW h i = 1) || decide (hC h = some i)))
/-- behind how many hours all is done: f if not behind fewer than f -/
def dnL (P : PT) : Nat → HT → Nat
  | 0, _ => 0
  | f + 1, h => if isDnB P h (pN P) = true then 0 else dnL P f (pss P h) + 1
def dn (P : PT) (h : HT) : Nat := dnL P 100 h
def itp (P : PT) : Nat → HT → HT
  | 0, h => h
  | k + 1, h => pss P (itp P k h)
/-- who is booked -/
def bkd (P : PT) (h : HT) : List Nat := (List.range (pN P)).filter (fun g => decide (hW h g = 0))
/-- rooms dealt: the e-th of those booked has the room of the q e -th -/
def dlR (h : HT) : List Nat → List Nat → HT → HT
  | g :: lot, j :: js, x => dlR h lot js (sR x g (hR h j))
  | _, _, x => x
def dlH (P : PT) (h : HT) (q : List Nat) : HT := dlR h (bkd P h) (q.map (fun e => (bkd P h).getD e 0)) h
def dlS (P : PT) (h : HT) : List (List Nat) → Nat × Option (List Nat) → Nat × Option (List Nat)
  | [], s => s
  | q :: qs, s => dlS P h qs (if dn P (dlH P h q) < s.1 then (dn P (dlH P h q), some q) else s)
def dlB (P : PT) (h : HT) : Nat × Option (List Nat) := dlS P h (perms (bkd P h).length) (100, none)
def dlT (P : PT) (h : HT) : Nat := (dlB P h).1
/-- whose room one has -/
def dlO (P : PT) (h : HT) (g : Nat) : Option Nat := match (dlB P h).2 with
  | none => none
  | some q => if hW h g = 0 then some ((bkd P h).getD (q.getD ((bkd P h).idxOf g) 0) 0) else none
/-! orders: coins by who came when -/
def payO (co : Nat → Int32) (cap abv : Option Nat) (tips : Int32) : Nat → Int32 := match cap with
  | none => co
  | some g => match abv with
    | none => va_up co g (co g + tips)
    | some b => va_up (va_up (va_up co g (co g + tips)) g ((co g + tips) - (co g + tips) / 2)) b (va_up (va_up co g (co g + tips)) g ((co g + tips) - (co g + tips) / 2) b + (co g + tips) / 2)
abbrev OT : Type := Option Nat × (Option Nat × (Int32 × (Nat → Int32)))
def stpO (P : PT) (s : OT) (g : Nat) : OT := if pK P g = 2 then (s.1, s.2.1, s.2.2.1 + nI (pT P g), s.2.2.2) else (some g, s.1, 0, payO s.2.2.2 s.1 s.2.1 (s.2.2.1 + nI (pT P g)))
def coO (P : PT) (l : List Nat) : Nat → Int32 := (l.foldl (stpO P) (none, none, 0, fun _ => 0)).2.2.2
def okO (P : PT) (seen : List (Nat × Nat)) (l : List Nat) : Bool := seen.all (fun q => decide (coO P l q.1 = nI q.2))
def orL (P : PT) (seen : List (Nat × Nat)) : List (List Nat) := (perms (pN P)).filter (okO P seen)
/-! all that stands: guests, hotel, undone, kept, text, seen -/
abbrev ST : Type := PT × (HT × (List HT × (List HT × (List Nat × List (Nat × Nat)))))
def mST (P : PT) (h : HT) (u k : List HT) (x : List Nat) (e : List (Nat × Nat)) : ST := (P, h, u, k, x, e)
def xP (s : ST) : PT := s.1
def xH (s : ST) : HT := s.2.1
def xU (s : ST) : List HT := s.2.2.1
def xK (s : ST) : List HT := s.2.2.2.1
def xX (s : ST) : List Nat := s.2.2.2.2.1
def xE (s : ST) : List (Nat × Nat) := s.2.2.2.2.2
def HI (T : Nat) (P : PT) (h : HT) : Prop := GV P h ∧ hT h ≤ T
def IX (T : Nat) (s : ST) : Prop := PW (xP s) ∧ 1 ≤ pN (xP s) ∧ HI T (xP s) (xH s) ∧ (∀ h, h ∈ xU s → HI T (xP s) h) ∧ (∀ h, h ∈ xK s → HI T (xP s) h) ∧ (xU s).length ≤ 8 ∧ (xK s).length ≤ 2 ∧ (xX s).length ≤ 200 ∧ (∀ c, c ∈ xX s → c < 127) ∧ (xE s).length ≤ 7 ∧ (∀ q, q ∈ xE s → q.1 < pN (xP s) ∧ q.2 ≤ 200) ∧ T < 2 ^ 20
/-- what Dealing remembers -/
def DOK (P : PT) (h : HT) (M : Mem) : Prop := M 124 10 = 1 ∨ (M 124 10 = 0 ∧ (∃ t, t < 2 ^ 31 ∧ M 124 9 = nI t ∧ (if t ≤ 99 then t else 100) = dlT P h) ∧ ∀ g, g < pN P → M 127 g = oI (dlO P h g))
/-- what Sightings remembers -/
def SOK (P : PT) (e : List (Nat × Nat)) (M : Mem) : Prop := M 142 8 = 1 ∨ (M 142 8 = 0 ∧ M 142 7 = nI (orL P e).length ∧ ∀ l, (orL P e).head? = some l → ∀ k, k < pN P → M 146 k = nI (l.getD k 0))
def TX (M : Mem) (x : List Nat) : Prop := M 1 2 = nI x.length ∧ ∀ i c, x[i]? = some c → M 2 i = nI c
def SN (M : Mem) (e : List (Nat × Nat)) : Prop := M 142 6 = nI e.length ∧ ∀ i q, e[i]? = some q → M 143 i = nI q.1 ∧ M 144 i = nI q.2
def RX (s : ST) (M : Mem) : Prop := PR M 4 (xP s) ∧ HR M 18 (pN (xP s)) (xH s) ∧ SF M 40 8 (pN (xP s)) (xU s) ∧ SF M 106 2 (pN (xP s)) (xK s) ∧ TX M (xX s) ∧ SN M (xE s) ∧ DOK (xP s) (xH s) M ∧ SOK (xP s) (xE s) M
/-- cells that hold nothing that lasts -/
def scr (q : Nat) : Prop := (11 ≤ q ∧ q < 18) ∨ (26 ≤ q ∧ q < 40) ∨ q = 125 ∨ q = 126 ∨ (128 ≤ q ∧ q < 142) ∨ q = 145 ∨ 147 ≤ q
theorem SF.of {a ln n : Nat} {l : List HT} {M M' : Mem} (k : SF M a ln n l) (e : ∀ q, a ≤ q → q < a + 2 + 8 * ln → M' q = M q) : SF M' a ln n l := by
  obtain ⟨k1, k2, ad, k3, k4, k5, k6⟩ := k
  refine ⟨k1, by rw [e a (by omega) (by omega)]; exact k2, ad, fun i hi => by rw [e (a + 1) (by omega) (by omega)]; exact k3 i hi, k4, k5, fun i h hh => ?_⟩
  have hi : i < l.length := (List.getElem?_eq_some_iff.mp hh).1
  have := k4 i (by omega)
  exact (k6 i h hh).of (fun q h1 h2 => e q (by omega) (by omega))
theorem PR.of {p : Nat} {P : PT} {M M' : Mem} (h : PR M p P) (e : ∀ q, p ≤ q → q < p + 7 → M' q = M q) : PR M' p P := by
  refine ⟨by rw [e p (by omega) (by omega)]; exact h.1, fun g hg => ?_⟩
  obtain ⟨a1, a2, a3, a4⟩ := h.2 g hg
  exact ⟨by rw [e _ (by omega) (by omega)]; exact a1, by rw [e _ (by omega) (by omega)]; exact a2, by rw [e _ (by omega) (by omega)]; exact a3, by rw [e _ (by omega) (by omega)]; exact a4⟩
theorem rx_scr {s : ST} {M M' : Mem} (k : RX s M) (e : ∀ q, ¬ scr q → M' q = M q) : RX s M' := by
  obtain ⟨k1, k2, k3, k4, k5, k6, k7, k8⟩ := k
  have f := e
  unfold scr at f
  have f1 := f 1 (by omega)
  have f2 := f 2 (by omega)
  have f124 := f 124 (by omega)
  have f127 := f 127 (by omega)
  have f142 := f 142 (by omega)
  have f143 := f 143 (by omega)
  have f144 := f 144 (by omega)
  have f146 := f 146 (by omega)
  refine ⟨k1.of (fun q _ _ => f q (by omega)), k2.of (fun q _ _ => f q (by omega)), k3.of (fun q _ _ => f q (by omega)), k4.of (fun q _ _ => f q (by omega)), ?_, ?_, ?_, ?_⟩
  · unfold TX; rw [f1, f2]; exact k5
  · unfold SN; rw [f142, f143, f144]; exact k6
  · unfold DOK; rw [f124, f127]; exact k7
  · unfold SOK; rw [f142, f146]; exact k8
/-! the model's memory -/
def TM (N : Mem) (x : List Nat) : Prop := N 0 12 = nI x.length ∧ ∀ i c, x[i]? = some c → N 8 i = nI c
def NM (N : Mem) (e : List (Nat × Nat)) : Prop := N 0 8 = nI e.length ∧ ∀ i q, e[i]? = some q → N 6 i = nI q.1 ∧ N 7 i = nI q.2
def RM (s : ST) (N : Mem) : Prop := PM N (xP s) ∧ MR N 0 (pN (xP s)) (xH s) ∧ (N 0 1 = nI (xU s).length ∧ ∀ i h, (xU s)[i]? = some h → MR N (204 + 51 * i) (pN (xP s)) h) ∧ (N 0 2 = nI (xK s).length ∧ ∀ i h, (xK s)[i]? = some h → MR N (102 + 51 * i) (pN (xP s)) h) ∧ TM N (xX s) ∧ NM N (xE s)
