/-! numbers -/
def oI : Option Nat → Int32
  | none => -4
  | some c => nI c
theorem cl {n : Nat} (h : n < 2 ^ 31) : (nI n).toNatClampNeg = n := nI_clamp h
theorem vin {n N : Nat} (h : n < N) (hN : N < 2 ^ 31) : vp_in (nI n) N := vp_in_nI h hN
theorem brn_t {c A B : Prop} (h : c) (b : B) : (¬ c → A) ∧ (c → B) := ⟨fun q => absurd h q, fun _ => b⟩
theorem brn_f {c A B : Prop} (h : ¬ c) (a : A) : (¬ c → A) ∧ (c → B) := ⟨fun _ => a, fun q => absurd q h⟩
theorem brn_c {c A B : Prop} (a : ¬ c → A) (b : c → B) : (¬ c → A) ∧ (c → B) := ⟨a, b⟩
/-- a loop over a row of seven places that names that bound too -/
theorem br7_f {i n : Nat} {Q Q' R : Prop} (hi : i < n) (h7 : n ≤ 7) (r : R) : ((7 : Int32) ≤ nI i → Q) ∧ (¬ (7 : Int32) ≤ nI i → (nI n ≤ nI i → Q') ∧ (¬ nI n ≤ nI i → R)) :=
  br_f (nI_ge (b := 7) (by omega) (by decide)) (br_f (nI_ge hi (by omega)) r)
theorem br7_t {n : Nat} {Q Q' R : Prop} (h7 : n ≤ 7) (q : Q) (q' : Q') : ((7 : Int32) ≤ nI n → Q) ∧ (¬ (7 : Int32) ≤ nI n → (nI n ≤ nI n → Q') ∧ (¬ nI n ≤ nI n → R)) :=
  ⟨fun _ => q, fun _ => br_t (nI_le (Nat.le_refl _) (by omega)) q'⟩
theorem br7_e {n : Nat} {Q R : Prop} (h7 : n ≤ 7) (q : Q) : ((7 : Int32) ≤ nI n → Q) ∧ (¬ (7 : Int32) ≤ nI n → (nI n ≤ nI n → Q) ∧ (¬ nI n ≤ nI n → R)) := br7_t h7 q q
theorem nI_ne4 {c : Nat} (h : c < 2 ^ 31) : ¬ nI c = -4 := by
  intro e
  have h1 := nI_pos' h
  rw [e] at h1
  exact absurd h1 (by decide)
theorem nI_inj {a b : Nat} (ha : a < 2 ^ 31) (hb : b < 2 ^ 31) (h : nI a = nI b) : a = b := (nI_eq ha hb).mp h
theorem sl7 : ∀ j, j < 32 → ((nI j &&& 31).toBitVec.smod 32).toNat = j := by decide +kernel
theorem shrb {m j : Nat} (hm : m < 2 ^ 31) (hj : j < 32) : (nI m >>> (nI j &&& 31)) &&& 1 = nI (m / 2 ^ j % 2) := by
  rw [pk_shrN hm _ j (sl7 j hj)]
  have h1 : m / 2 ^ j ≤ m := Nat.div_le_self _ _
  exact pk_andN (by omega) 1 (by decide)
theorem shlb : ∀ j, j < 31 → (1 : Int32) <<< (nI j &&& 31) = nI (2 ^ j) := by decide +kernel
theorem tn_nI {n : Nat} (h : n < 2 ^ 32) : (nI n).toBitVec.toNat = n := pk_tn h
theorem or_nI (a b : Nat) : nI a ||| nI b = nI (a ||| b) := by
  apply Int32.toBitVec_inj.mp
  rw [Int32.toBitVec_or]
  show BitVec.ofNat 32 a ||| BitVec.ofNat 32 b = BitVec.ofNat 32 (a ||| b)
  apply BitVec.eq_of_getLsbD_eq
  intro i hi
  simp [BitVec.getLsbD_or, BitVec.getLsbD_ofNat, hi]
theorem l0 : (0 : Int32) = nI 0 := rfl
theorem l1 : (1 : Int32) = nI 1 := rfl
theorem l2 : (2 : Int32) = nI 2 := rfl
theorem l3 : (3 : Int32) = nI 3 := rfl
theorem l7 : (7 : Int32) = nI 7 := rfl
theorem l9 : (9 : Int32) = nI 9 := rfl
theorem l16 : (16 : Int32) = nI 16 := rfl
theorem l23 : (23 : Int32) = nI 23 := rfl
theorem l30 : (30 : Int32) = nI 30 := rfl
theorem l37 : (37 : Int32) = nI 37 := rfl
theorem l44 : (44 : Int32) = nI 44 := rfl
theorem l51 : (51 : Int32) = nI 51 := rfl
/-! a hotel: hours gone, cap, how, hour, room, to do, by, saw, coins -/
abbrev HT : Type := Nat × (Option Nat × ((Nat → Nat) × ((Nat → Nat) × ((Nat → Nat) × ((Nat → Nat) × ((Nat → Option Nat) × ((Nat → Nat) × (Nat → Int32))))))))
def hT (h : HT) : Nat := h.1
def hC (h : HT) : Option Nat := h.2.1
def hW (h : HT) : Nat → Nat := h.2.2.1
def hU (h : HT) : Nat → Nat := h.2.2.2.1
def hR (h : HT) : Nat → Nat := h.2.2.2.2.1
def hD (h : HT) : Nat → Nat := h.2.2.2.2.2.1
def hB (h : HT) : Nat → Option Nat := h.2.2.2.2.2.2.1
def hS (h : HT) : Nat → Nat := h.2.2.2.2.2.2.2.1
def hG (h : HT) : Nat → Int32 := h.2.2.2.2.2.2.2.2
def sT (h : HT) (x : Nat) : HT := (x, h.2)
def sC (h : HT) (x : Option Nat) : HT := (h.1, x, h.2.2)
def sW (h : HT) (g x : Nat) : HT := (h.1, h.2.1, va_up h.2.2.1 g x, h.2.2.2)
def sU (h : HT) (g x : Nat) : HT := (h.1, h.2.1, h.2.2.1, va_up h.2.2.2.1 g x, h.2.2.2.2)
def sR (h : HT) (g x : Nat) : HT := (h.1, h.2.1, h.2.2.1, h.2.2.2.1, va_up h.2.2.2.2.1 g x, h.2.2.2.2.2)
def sD (h : HT) (g x : Nat) : HT := (h.1, h.2.1, h.2.2.1, h.2.2.2.1, h.2.2.2.2.1, va_up h.2.2.2.2.2.1 g x, h.2.2.2.2.2.2)
def sB (h : HT) (g : Nat) (x : Option Nat) : HT := (h.1, h.2.1, h.2.2.1, h.2.2.2.1, h.2.2.2.2.1, h.2.2.2.2.2.1, va_up h.2.2.2.2.2.2.1 g x, h.2.2.2.2.2.2.2)
def sS (h : HT) (g x : Nat) : HT := (h.1, h.2.1, h.2.2.1, h.2.2.2.1, h.2.2.2.2.1, h.2.2.2.2.2.1, h.2.2.2.2.2.2.1, va_up h.2.2.2.2.2.2.2.1 g x, h.2.2.2.2.2.2.2.2)
def sG (h : HT) (g : Nat) (x : Int32) : HT := (h.1, h.2.1, h.2.2.1, h.2.2.2.1, h.2.2.2.2.1, h.2.2.2.2.2.1, h.2.2.2.2.2.2.1, h.2.2.2.2.2.2.2.1, va_up h.2.2.2.2.2.2.2.2 g x)
theorem up_s {α : Type} (f : Nat → α) (g : Nat) (x : α) : va_up f g x g = x := if_pos rfl
theorem up_n {α : Type} {f : Nat → α} {g j : Nat} {x : α} (h : j ≠ g) : va_up f g x j = f j := if_neg h
theorem ms_s (M : Mem) (k i : Nat) (v : Int32) : mset M k i v k i = v := by rw [mset_self]; exact if_pos rfl
theorem ms_n {M : Mem} {k i q j : Nat} {v : Int32} (h : q ≠ k ∨ j ≠ i) : mset M k i v q j = M q j := by
  by_cases e : q = k
  · subst e
    rw [mset_self]
    exact if_neg (h.resolve_left (fun z => z rfl))
  · rw [mset_ne e]
/-! guests: how many, kind, needs, tips, pace -/
abbrev PT : Type := Nat × ((Nat → Nat) × ((Nat → Nat) × ((Nat → Nat) × (Nat → Nat))))
def pN (P : PT) : Nat := P.1
def pK (P : PT) : Nat → Nat := P.2.1
def pD (P : PT) : Nat → Nat := P.2.2.1
def pT (P : PT) : Nat → Nat := P.2.2.2.1
def pS (P : PT) : Nat → Nat := P.2.2.2.2
def PW (P : PT) : Prop := pN P ≤ 7 ∧ ∀ g, g < pN P → pK P g ≤ 3 ∧ (1 ≤ pD P g ∧ pD P g ≤ 30) ∧ pT P g ≤ 20 ∧ (1 ≤ pS P g ∧ pS P g ≤ 9)
/-- what a guest brings -/
def brg (P : PT) (h : HT) (g : Nat) : Nat := (if pK P g = 1 then 2 * pD P g else if pK P g = 3 then pD P g / 2 else pD P g) + hR h g
/-- a guest comes -/
def cmC (P : PT) (h : HT) (g : Nat) : HT := match hC h with
  | none => h
  | some c => sB (sS (sD h c (hD h c + brg P h g)) c (hS h c ||| 2 ^ g)) g (some c)
def cm (P : PT) (h : HT) (g : Nat) : HT := if pK P g = 2 then sW (cmC P h g) g 2 else sC (sW (cmC P h g) g 1) (some g)
/-- tips of all to whom one saw -/
def tps (P : PT) (m : Nat) : Nat → Int32 → Int32
  | 0, x => x
  | j + 1, x => if m / 2 ^ j % 2 = 1 then tps P m j x + nI (pT P j) else tps P m j x
def frG (P : PT) (h : HT) (g : Nat) : HT := sG (sW h g 2) g (tps P (hS h g) (pN P) (hG h g))
def fr (P : PT) (h : HT) (g : Nat) : HT := match hB h g with
  | none => frG P h g
  | some b => sG (sG (frG P h g) g (hG (frG P h g) g - hG (frG P h g) g / 2)) b (hG (sG (frG P h g) g (hG (frG P h g) g - hG (frG P h g) g / 2)) b + hG (frG P h g) g / 2)
def ps1 (P : PT) : Nat → HT → HT
  | 0, h => h
  | i + 1, h => if hW (ps1 P i h) i = 0 ∧ hU (ps1 P i h) i = hT (ps1 P i h) then cm P (ps1 P i h) i else ps1 P i h
def ps2 (P : PT) : Nat → HT → HT
  | 0, h => h
  | i + 1, h => if hW (ps2 P i h) i = 1 then sD (ps2 P i h) i (hD (ps2 P i h) i - pS P i) else ps2 P i h
def ps3 (P : PT) : Nat → HT → HT
  | 0, h => h
  | i + 1, h => if hW (ps3 P i h) i = 1 ∧ ¬ hC (ps3 P i h) = some i ∧ hD (ps3 P i h) i = 0 then fr P (ps3 P i h) i else ps3 P i h
/-- an hour -/
def pss (P : PT) (h : HT) : HT := sT (ps3 P (pN P) (ps2 P (pN P) (ps1 P (pN P) h))) (hT (ps3 P (pN P) (ps2 P (pN P) (ps1 P (pN P) h))) + 1)
/-! what is always so -/
def nbk (n : Nat) (h : HT) : Nat := ((List.range n).filter (fun g => decide (¬ hW h g = 0))).length
def HW (n : Nat) (h : HT) : Prop :=
  hT h < 2 ^ 20 ∧ (∀ c, hC h = some c → c < n) ∧ ∀ g, g < n → hW h g ≤ 3 ∧ hU h g ≤ 40 ∧ hR h g ≤ 9 ∧ hD h g ≤ 2 ^ 20 ∧ (∀ c, hB h g = some c → c < n) ∧ hS h g < 2 ^ 7
/-! the two memories -/
def PR (M : Mem) (p : Nat) (P : PT) : Prop := M p 6 = nI (pN P) ∧ ∀ g, g < pN P → M (p + 1) g = nI (pK P g) ∧ M (p + 3) g = nI (pD P g) ∧ M (p + 4) g = nI (pT P g) ∧ M (p + 5) g = nI (pS P g)
def HR (M : Mem) (a n : Nat) (h : HT) : Prop := M a 9 = nI (hT h) ∧ M a 8 = oI (hC h) ∧ ∀ g, g < n → M (a + 1) g = nI (hW h g) ∧ M (a + 2) g = nI (hU h g) ∧ M (a + 3) g = nI (hR h g) ∧ M (a + 4) g = nI (hD h g) ∧ M (a + 5) g = oI (hB h g) ∧ M (a + 6) g = nI (hS h g) ∧ M (a + 7) g = hG h g
def PM (N : Mem) (P : PT) : Prop := N 0 3 = nI (pN P) ∧ ∀ g, g < pN P → N 2 g = nI (pK P g) ∧ N 3 g = nI (pD P g) ∧ N 4 g = nI (pT P g) ∧ N 5 g = nI (pS P g)
def MR (N : Mem) (r n : Nat) (h : HT) : Prop := N 1 r = nI (hT h) ∧ N 1 (r + 1) = oI (hC h) ∧ ∀ g, g < n → N 1 (r + 2 + g) = nI (hW h g) ∧ N 1 (r + 9 + g) = nI (hU h g) ∧ N 1 (r + 16 + g) = nI (hR h g) ∧ N 1 (r + 23 + g) = nI (hD h g) ∧ N 1 (r + 30 + g) = oI (hB h g) ∧ N 1 (r + 37 + g) = nI (hS h g) ∧ N 1 (r + 44 + g) = hG h g
/-- outside the house at a nothing changes -/
def Fr (a : Nat) (M M' : Mem) : Prop := ∀ q, (q < a ∨ a + 8 ≤ q) → M' q = M q
/-- outside the model's row at r nothing changes -/
def FM (r : Nat) (N N' : Mem) : Prop := (∀ q, q ≠ 1 → N' q = N q) ∧ ∀ i, (i < r ∨ r + 51 ≤ i) → N' 1 i = N 1 i
theorem Fr.rf {a : Nat} {M : Mem} : Fr a M M := fun _ _ => rfl
theorem FM.rf {r : Nat} {N : Mem} : FM r N N := ⟨fun _ _ => rfl, fun _ _ => rfl⟩
theorem Fr.set {a k i : Nat} {v : Int32} {M M' : Mem} (h : Fr a M M') (h1 : a ≤ k) (h2 : k < a + 8) : Fr a M (mset M' k i v) := fun q hq => by
  rw [mset_ne (by omega)]
  exact h q hq
theorem FM.set {r i : Nat} {v : Int32} {N N' : Mem} (h : FM r N N') (h1 : r ≤ i) (h2 : i < r + 51) : FM r N (mset N' 1 i v) :=
  ⟨fun q hq => by rw [mset_ne hq]; exact h.1 q hq, fun j hj => by rw [ms_n (Or.inr (by omega))]; exact h.2 j hj⟩
theorem Fr.tr {a : Nat} {M M1 M2 : Mem} (h : Fr a M M1) (h2 : Fr a M1 M2) : Fr a M M2 := fun q hq => (h2 q hq).trans (h q hq)
theorem FM.tr {a : Nat} {M M1 M2 : Mem} (h : FM a M M1) (h2 : FM a M1 M2) : FM a M M2 := ⟨fun q hq => (h2.1 q hq).trans (h.1 q hq), fun q hq => (h2.2 q hq).trans (h.2 q hq)⟩
theorem PR.fr {a p : Nat} {M M' : Mem} {P : PT} (h : PR M p P) (f : Fr a M M') (h1 : p + 6 < a ∨ a + 8 ≤ p) : PR M' p P := by
  refine ⟨by rw [f p (by omega)]; exact h.1, fun g hg => ?_⟩
  obtain ⟨a1, a2, a3, a4⟩ := h.2 g hg
  exact ⟨by rw [f _ (by omega)]; exact a1, by rw [f _ (by omega)]; exact a2, by rw [f _ (by omega)]; exact a3, by rw [f _ (by omega)]; exact a4⟩
theorem PM.fr {r : Nat} {N N' : Mem} {P : PT} (h : PM N P) (f : FM r N N') : PM N' P := by
  refine ⟨by rw [f.1 0 (by decide)]; exact h.1, fun g hg => ?_⟩
  obtain ⟨a1, a2, a3, a4⟩ := h.2 g hg
  exact ⟨by rw [f.1 2 (by decide)]; exact a1, by rw [f.1 3 (by decide)]; exact a2, by rw [f.1 4 (by decide)]; exact a3, by rw [f.1 5 (by decide)]; exact a4⟩
theorem HR.sW {M : Mem} {a n g : Nat} {h : HT} {x : Nat} (k : HR M a n h) : HR (mset M (a + 1) g (nI x)) a n (sW h g x) := by
  refine ⟨by rw [ms_n (Or.inl (by omega))]; exact k.1, by rw [ms_n (Or.inl (by omega))]; exact k.2.1, fun j hj => ?_⟩
  obtain ⟨k1, k2, k3, k4, k5, k6, k7⟩ := k.2.2 j hj
  refine ⟨?_, by rw [ms_n (Or.inl (by omega))]; exact k2, by rw [ms_n (Or.inl (by omega))]; exact k3, by rw [ms_n (Or.inl (by omega))]; exact k4, by rw [ms_n (Or.inl (by omega))]; exact k5, by rw [ms_n (Or.inl (by omega))]; exact k6, by rw [ms_n (Or.inl (by omega))]; exact k7⟩
  by_cases e : j = g
  · subst e; rw [ms_s]; show _ = nI (va_up _ j x j); rw [up_s]
  · rw [ms_n (Or.inr e), k1]; show _ = nI (va_up _ g x j); rw [up_n e]; rfl
theorem MR.sW {N : Mem} {r n g : Nat} {h : HT} {x : Nat} (k : MR N r n h) (hn : n ≤ 7) (hg : g < n) : MR (mset N 1 (r + 2 + g) (nI x)) r n (sW h g x) := by
  refine ⟨by rw [ms_n (Or.inr (by omega))]; exact k.1, by rw [ms_n (Or.inr (by omega))]; exact k.2.1, fun j hj => ?_⟩
  obtain ⟨k1, k2, k3, k4, k5, k6, k7⟩ := k.2.2 j hj
  refine ⟨?_, by rw [ms_n (Or.inr (by omega))]; exact k2, by rw [ms_n (Or.inr (by omega))]; exact k3, by rw [ms_n (Or.inr (by omega))]; exact k4, by rw [ms_n (Or.inr (by omega))]; exact k5, by rw [ms_n (Or.inr (by omega))]; exact k6, by rw [ms_n (Or.inr (by omega))]; exact k7⟩
  by_cases e : j = g
  · subst e; rw [ms_s]; show _ = nI (va_up _ j x j); rw [up_s]
  · rw [ms_n (Or.inr (by omega)), k1]; show _ = nI (va_up _ g x j); rw [up_n e]; rfl
theorem HR.sU {M : Mem} {a n g : Nat} {h : HT} {x : Nat} (k : HR M a n h) : HR (mset M (a + 2) g (nI x)) a n (sU h g x) := by
  refine ⟨by rw [ms_n (Or.inl (by omega))]; exact k.1, by rw [ms_n (Or.inl (by omega))]; exact k.2.1, fun j hj => ?_⟩
  obtain ⟨k1, k2, k3, k4, k5, k6, k7⟩ := k.2.2 j hj
  refine ⟨by rw [ms_n (Or.inl (by omega))]; exact k1, ?_, by rw [ms_n (Or.inl (by omega))]; exact k3, by rw [ms_n (Or.inl (by omega))]; exact k4, by rw [ms_n (Or.inl (by omega))]; exact k5, by rw [ms_n (Or.inl (by omega))]; exact k6, by rw [ms_n (Or.inl (by omega))]; exact k7⟩
  by_cases e : j = g
  · subst e; rw [ms_s]; show _ = nI (va_up _ j x j); rw [up_s]
  · rw [ms_n (Or.inr e), k2]; show _ = nI (va_up _ g x j); rw [up_n e]; rfl
theorem MR.sU {N : Mem} {r n g : Nat} {h : HT} {x : Nat} (k : MR N r n h) (hn : n ≤ 7) (hg : g < n) : MR (mset N 1 (r + 9 + g) (nI x)) r n (sU h g x) := by
  refine ⟨by rw [ms_n (Or.inr (by omega))]; exact k.1, by rw [ms_n (Or.inr (by omega))]; exact k.2.1, fun j hj => ?_⟩
  obtain ⟨k1, k2, k3, k4, k5, k6, k7⟩ := k.2.2 j hj
  refine ⟨by rw [ms_n (Or.inr (by omega))]; exact k1, ?_, by rw [ms_n (Or.inr (by omega))]; exact k3, by rw [ms_n (Or.inr (by omega))]; exact k4, by rw [ms_n (Or.inr (by omega))]; exact k5, by rw [ms_n (Or.inr (by omega))]; exact k6, by rw [ms_n (Or.inr (by omega))]; exact k7⟩
  by_cases e : j = g
  · subst e; rw [ms_s]; show _ = nI (va_up _ j x j); rw [up_s]
  · rw [ms_n (Or.inr (by omega)), k2]; show _ = nI (va_up _ g x j); rw [up_n e]; rfl
theorem HR.sR {M : Mem} {a n g : Nat} {h : HT} {x : Nat} (k : HR M a n h) : HR (mset M (a + 3) g (nI x)) a n (sR h g x) := by
  refine ⟨by rw [ms_n (Or.inl (by omega))]; exact k.1, by rw [ms_n (Or.inl (by omega))]; exact k.2.1, fun j hj => ?_⟩
  obtain ⟨k1, k2, k3, k4, k5, k6, k7⟩ := k.2.2 j hj
  refine ⟨by rw [ms_n (Or.inl (by omega))]; exact k1, by rw [ms_n (Or.inl (by omega))]; exact k2, ?_, by rw [ms_n (Or.inl (by omega))]; exact k4, by rw [ms_n (Or.inl (by omega))]; exact k5, by rw [ms_n (Or.inl (by omega))]; exact k6, by rw [ms_n (Or.inl (by omega))]; exact k7⟩
  by_cases e : j = g
  · subst e; rw [ms_s]; show _ = nI (va_up _ j x j); rw [up_s]
  · rw [ms_n (Or.inr e), k3]; show _ = nI (va_up _ g x j); rw [up_n e]; rfl
theorem MR.sR {N : Mem} {r n g : Nat} {h : HT} {x : Nat} (k : MR N r n h) (hn : n ≤ 7) (hg : g < n) : MR (mset N 1 (r + 16 + g) (nI x)) r n (sR h g x) := by
  refine ⟨by rw [ms_n (Or.inr (by omega))]; exact k.1, by rw [ms_n (Or.inr (by omega))]; exact k.2.1, fun j hj => ?_⟩
  obtain ⟨k1, k2, k3, k4, k5, k6, k7⟩ := k.2.2 j hj
  refine ⟨by rw [ms_n (Or.inr (by omega))]; exact k1, by rw [ms_n (Or.inr (by omega))]; exact k2, ?_, by rw [ms_n (Or.inr (by omega))]; exact k4, by rw [ms_n (Or.inr (by omega))]; exact k5, by rw [ms_n (Or.inr (by omega))]; exact k6, by rw [ms_n (Or.inr (by omega))]; exact k7⟩
  by_cases e : j = g
  · subst e; rw [ms_s]; show _ = nI (va_up _ j x j); rw [up_s]
  · rw [ms_n (Or.inr (by omega)), k3]; show _ = nI (va_up _ g x j); rw [up_n e]; rfl
theorem HR.sD {M : Mem} {a n g : Nat} {h : HT} {x : Nat} (k : HR M a n h) : HR (mset M (a + 4) g (nI x)) a n (sD h g x) := by
  refine ⟨by rw [ms_n (Or.inl (by omega))]; exact k.1, by rw [ms_n (Or.inl (by omega))]; exact k.2.1, fun j hj => ?_⟩
  obtain ⟨k1, k2, k3, k4, k5, k6, k7⟩ := k.2.2 j hj
  refine ⟨by rw [ms_n (Or.inl (by omega))]; exact k1, by rw [ms_n (Or.inl (by omega))]; exact k2, by rw [ms_n (Or.inl (by omega))]; exact k3, ?_, by rw [ms_n (Or.inl (by omega))]; exact k5, by rw [ms_n (Or.inl (by omega))]; exact k6, by rw [ms_n (Or.inl (by omega))]; exact k7⟩
  by_cases e : j = g
  · subst e; rw [ms_s]; show _ = nI (va_up _ j x j); rw [up_s]
  · rw [ms_n (Or.inr e), k4]; show _ = nI (va_up _ g x j); rw [up_n e]; rfl
theorem MR.sD {N : Mem} {r n g : Nat} {h : HT} {x : Nat} (k : MR N r n h) (hn : n ≤ 7) (hg : g < n) : MR (mset N 1 (r + 23 + g) (nI x)) r n (sD h g x) := by
  refine ⟨by rw [ms_n (Or.inr (by omega))]; exact k.1, by rw [ms_n (Or.inr (by omega))]; exact k.2.1, fun j hj => ?_⟩
  obtain ⟨k1, k2, k3, k4, k5, k6, k7⟩ := k.2.2 j hj
  refine ⟨by rw [ms_n (Or.inr (by omega))]; exact k1, by rw [ms_n (Or.inr (by omega))]; exact k2, by rw [ms_n (Or.inr (by omega))]; exact k3, ?_, by rw [ms_n (Or.inr (by omega))]; exact k5, by rw [ms_n (Or.inr (by omega))]; exact k6, by rw [ms_n (Or.inr (by omega))]; exact k7⟩
  by_cases e : j = g
  · subst e; rw [ms_s]; show _ = nI (va_up _ j x j); rw [up_s]
  · rw [ms_n (Or.inr (by omega)), k4]; show _ = nI (va_up _ g x j); rw [up_n e]; rfl
theorem HR.sB {M : Mem} {a n g : Nat} {h : HT} {x : Option Nat} (k : HR M a n h) : HR (mset M (a + 5) g (oI x)) a n (sB h g x) := by
  refine ⟨by rw [ms_n (Or.inl (by omega))]; exact k.1, by rw [ms_n (Or.inl (by omega))]; exact k.2.1, fun j hj => ?_⟩
  obtain ⟨k1, k2, k3, k4, k5, k6, k7⟩ := k.2.2 j hj
  refine ⟨by rw [ms_n (Or.inl (by omega))]; exact k1, by rw [ms_n (Or.inl (by omega))]; exact k2, by rw [ms_n (Or.inl (by omega))]; exact k3, by rw [ms_n (Or.inl (by omega))]; exact k4, ?_, by rw [ms_n (Or.inl (by omega))]; exact k6, by rw [ms_n (Or.inl (by omega))]; exact k7⟩
  by_cases e : j = g
  · subst e; rw [ms_s]; show _ = oI (va_up _ j x j); rw [up_s]
  · rw [ms_n (Or.inr e), k5]; show _ = oI (va_up _ g x j); rw [up_n e]; rfl
theorem MR.sB {N : Mem} {r n g : Nat} {h : HT} {x : Option Nat} (k : MR N r n h) (hn : n ≤ 7) (hg : g < n) : MR (mset N 1 (r + 30 + g) (oI x)) r n (sB h g x) := by
  refine ⟨by rw [ms_n (Or.inr (by omega))]; exact k.1, by rw [ms_n (Or.inr (by omega))]; exact k.2.1, fun j hj => ?_⟩
  obtain ⟨k1, k2, k3, k4, k5, k6, k7⟩ := k.2.2 j hj
  refine ⟨by rw [ms_n (Or.inr (by omega))]; exact k1, by rw [ms_n (Or.inr (by omega))]; exact k2, by rw [ms_n (Or.inr (by omega))]; exact k3, by rw [ms_n (Or.inr (by omega))]; exact k4, ?_, by rw [ms_n (Or.inr (by omega))]; exact k6, by rw [ms_n (Or.inr (by omega))]; exact k7⟩
  by_cases e : j = g
  · subst e; rw [ms_s]; show _ = oI (va_up _ j x j); rw [up_s]
  · rw [ms_n (Or.inr (by omega)), k5]; show _ = oI (va_up _ g x j); rw [up_n e]; rfl
theorem HR.sS {M : Mem} {a n g : Nat} {h : HT} {x : Nat} (k : HR M a n h) : HR (mset M (a + 6) g (nI x)) a n (sS h g x) := by
  refine ⟨by rw [ms_n (Or.inl (by omega))]; exact k.1, by rw [ms_n (Or.inl (by omega))]; exact k.2.1, fun j hj => ?_⟩
  obtain ⟨k1, k2, k3, k4, k5, k6, k7⟩ := k.2.2 j hj
  refine ⟨by rw [ms_n (Or.inl (by omega))]; exact k1, by rw [ms_n (Or.inl (by omega))]; exact k2, by rw [ms_n (Or.inl (by omega))]; exact k3, by rw [ms_n (Or.inl (by omega))]; exact k4, by rw [ms_n (Or.inl (by omega))]; exact k5, ?_, by rw [ms_n (Or.inl (by omega))]; exact k7⟩
  by_cases e : j = g
  · subst e; rw [ms_s]; show _ = nI (va_up _ j x j); rw [up_s]
  · rw [ms_n (Or.inr e), k6]; show _ = nI (va_up _ g x j); rw [up_n e]; rfl
theorem MR.sS {N : Mem} {r n g : Nat} {h : HT} {x : Nat} (k : MR N r n h) (hn : n ≤ 7) (hg : g < n) : MR (mset N 1 (r + 37 + g) (nI x)) r n (sS h g x) := by
  refine ⟨by rw [ms_n (Or.inr (by omega))]; exact k.1, by rw [ms_n (Or.inr (by omega))]; exact k.2.1, fun j hj => ?_⟩
  obtain ⟨k1, k2, k3, k4, k5, k6, k7⟩ := k.2.2 j hj
  refine ⟨by rw [ms_n (Or.inr (by omega))]; exact k1, by rw [ms_n (Or.inr (by omega))]; exact k2, by rw [ms_n (Or.inr (by omega))]; exact k3, by rw [ms_n (Or.inr (by omega))]; exact k4, by rw [ms_n (Or.inr (by omega))]; exact k5, ?_, by rw [ms_n (Or.inr (by omega))]; exact k7⟩
  by_cases e : j = g
  · subst e; rw [ms_s]; show _ = nI (va_up _ j x j); rw [up_s]
  · rw [ms_n (Or.inr (by omega)), k6]; show _ = nI (va_up _ g x j); rw [up_n e]; rfl
theorem HR.sG {M : Mem} {a n g : Nat} {h : HT} {x : Int32} (k : HR M a n h) : HR (mset M (a + 7) g (x)) a n (sG h g x) := by
  refine ⟨by rw [ms_n (Or.inl (by omega))]; exact k.1, by rw [ms_n (Or.inl (by omega))]; exact k.2.1, fun j hj => ?_⟩
  obtain ⟨k1, k2, k3, k4, k5, k6, k7⟩ := k.2.2 j hj
  refine ⟨by rw [ms_n (Or.inl (by omega))]; exact k1, by rw [ms_n (Or.inl (by omega))]; exact k2, by rw [ms_n (Or.inl (by omega))]; exact k3, by rw [ms_n (Or.inl (by omega))]; exact k4, by rw [ms_n (Or.inl (by omega))]; exact k5, by rw [ms_n (Or.inl (by omega))]; exact k6, ?_⟩
  by_cases e : j = g
  · subst e; rw [ms_s]; show _ = va_up _ j x j; rw [up_s]
  · rw [ms_n (Or.inr e), k7]; show _ = va_up _ g x j; rw [up_n e]; rfl
theorem MR.sG {N : Mem} {r n g : Nat} {h : HT} {x : Int32} (k : MR N r n h) (hn : n ≤ 7) (hg : g < n) : MR (mset N 1 (r + 44 + g) (x)) r n (sG h g x) := by
  refine ⟨by rw [ms_n (Or.inr (by omega))]; exact k.1, by rw [ms_n (Or.inr (by omega))]; exact k.2.1, fun j hj => ?_⟩
  obtain ⟨k1, k2, k3, k4, k5, k6, k7⟩ := k.2.2 j hj
  refine ⟨by rw [ms_n (Or.inr (by omega))]; exact k1, by rw [ms_n (Or.inr (by omega))]; exact k2, by rw [ms_n (Or.inr (by omega))]; exact k3, by rw [ms_n (Or.inr (by omega))]; exact k4, by rw [ms_n (Or.inr (by omega))]; exact k5, by rw [ms_n (Or.inr (by omega))]; exact k6, ?_⟩
  by_cases e : j = g
  · subst e; rw [ms_s]; show _ = va_up _ j x j; rw [up_s]
  · rw [ms_n (Or.inr (by omega)), k7]; show _ = va_up _ g x j; rw [up_n e]; rfl
theorem HR.sT {M : Mem} {a n : Nat} {h : HT} {x : Nat} (k : HR M a n h) : HR (mset M a 9 (nI x)) a n (sT h x) := by
  refine ⟨ms_s _ _ _ _, by rw [ms_n (Or.inr (by decide))]; exact k.2.1, fun j hj => ?_⟩
  obtain ⟨k1, k2, k3, k4, k5, k6, k7⟩ := k.2.2 j hj
  exact ⟨by rw [ms_n (Or.inl (by omega))]; exact k1, by rw [ms_n (Or.inl (by omega))]; exact k2, by rw [ms_n (Or.inl (by omega))]; exact k3, by rw [ms_n (Or.inl (by omega))]; exact k4, by rw [ms_n (Or.inl (by omega))]; exact k5, by rw [ms_n (Or.inl (by omega))]; exact k6, by rw [ms_n (Or.inl (by omega))]; exact k7⟩
theorem MR.sT {N : Mem} {r n : Nat} {h : HT} {x : Nat} (k : MR N r n h) : MR (mset N 1 (r + 0) (nI x)) r n (sT h x) := by
  refine ⟨ms_s _ _ _ _, by rw [ms_n (Or.inr (by omega))]; exact k.2.1, fun j hj => ?_⟩
  obtain ⟨k1, k2, k3, k4, k5, k6, k7⟩ := k.2.2 j hj
  exact ⟨by rw [ms_n (Or.inr (by omega))]; exact k1, by rw [ms_n (Or.inr (by omega))]; exact k2, by rw [ms_n (Or.inr (by omega))]; exact k3, by rw [ms_n (Or.inr (by omega))]; exact k4, by rw [ms_n (Or.inr (by omega))]; exact k5, by rw [ms_n (Or.inr (by omega))]; exact k6, by rw [ms_n (Or.inr (by omega))]; exact k7⟩
theorem HR.sC {M : Mem} {a n : Nat} {h : HT} {x : Option Nat} (k : HR M a n h) : HR (mset M a 8 (oI x)) a n (sC h x) := by
  refine ⟨by rw [ms_n (Or.inr (by decide))]; exact k.1, ms_s _ _ _ _, fun j hj => ?_⟩
  obtain ⟨k1, k2, k3, k4, k5, k6, k7⟩ := k.2.2 j hj
  exact ⟨by rw [ms_n (Or.inl (by omega))]; exact k1, by rw [ms_n (Or.inl (by omega))]; exact k2, by rw [ms_n (Or.inl (by omega))]; exact k3, by rw [ms_n (Or.inl (by omega))]; exact k4, by rw [ms_n (Or.inl (by omega))]; exact k5, by rw [ms_n (Or.inl (by omega))]; exact k6, by rw [ms_n (Or.inl (by omega))]; exact k7⟩
theorem MR.sC {N : Mem} {r n : Nat} {h : HT} {x : Option Nat} (k : MR N r n h) : MR (mset N 1 (r + 1) (oI x)) r n (sC h x) := by
  refine ⟨by rw [ms_n (Or.inr (by omega))]; exact k.1, ms_s _ _ _ _, fun j hj => ?_⟩
  obtain ⟨k1, k2, k3, k4, k5, k6, k7⟩ := k.2.2 j hj
  exact ⟨by rw [ms_n (Or.inr (by omega))]; exact k1, by rw [ms_n (Or.inr (by omega))]; exact k2, by rw [ms_n (Or.inr (by omega))]; exact k3, by rw [ms_n (Or.inr (by omega))]; exact k4, by rw [ms_n (Or.inr (by omega))]; exact k5, by rw [ms_n (Or.inr (by omega))]; exact k6, by rw [ms_n (Or.inr (by omega))]; exact k7⟩
