/-! first hours -/
def frL (P : PT) (g : Nat) : Nat → HT → Nat
  | 0, _ => 0
  | f + 1, h => if hW h g = 2 then 0 else frL P g f (pss P h) + 1
theorem itp_c (P : PT) (h : HT) : ∀ k, itp P k (pss P h) = itp P (k + 1) h
  | 0 => rfl
  | k + 1 => congrArg (pss P) (itp_c P h k)
theorem dnL_min {P : PT} : ∀ (f : Nat) (h : HT) (d : Nat), (∀ k, isDnB P (itp P k h) (pN P) = true ↔ d ≤ k) → dnL P f h = min d f
  | 0, h, d, _ => (Nat.min_zero d).symm
  | f + 1, h, d, e => by
    unfold dnL
    have e0 : isDnB P h (pN P) = true ↔ d ≤ 0 := e 0
    by_cases c : d = 0
    · subst c; rw [if_pos (e0.mpr (Nat.le_refl _)), Nat.zero_min]
    · rw [if_neg (fun z => c (by have := e0.mp z; omega)), dnL_min f (pss P h) (d - 1) (fun k => by rw [itp_c, e (k + 1)]; omega)]
      omega
theorem frL_min {P : PT} {g : Nat} : ∀ (f : Nat) (h : HT) (d : Nat), (∀ k, k < f → (hW (itp P k h) g = 2 ↔ d ≤ k)) → frL P g f h = min d f
  | 0, h, d, _ => (Nat.min_zero d).symm
  | f + 1, h, d, e => by
    unfold frL
    have e0 : hW h g = 2 ↔ d ≤ 0 := e 0 (by omega)
    by_cases c : d = 0
    · subst c; rw [if_pos (e0.mpr (Nat.le_refl _)), Nat.zero_min]
    · rw [if_neg (fun z => c (by have := e0.mp z; omega)), frL_min f (pss P h) (d - 1) (fun k hk => by rw [itp_c, e (k + 1) (by omega)]; omega)]
      omega
/-- all that one has to do, in the end -/
def tsk (P : PT) (h : HT) (g : Nat) : Nat := smS P h (hS (itp P (41 - hT h) h) g) (pN P)
def eSt (P : PT) (h : HT) (g x : Nat) (b : Option (Nat × Nat)) : Option (Nat × Nat) := match b with
  | none => some (x, tsk P (sU h g x) g)
  | some r => if tsk P (sU h g x) g < r.2 then some (x, tsk P (sU h g x) g) else some r
def eL (P : PT) (h : HT) (g : Nat) : Nat → Nat → Option (Nat × Nat) → Option (Nat × Nat)
  | 0, _, b => b
  | d + 1, x, b => eL P h g d (x + 1) (eSt P h g x b)
def oSt (P : PT) (h : HT) (g : Nat) (b : Option Nat × Nat) : Option Nat × Nat := if hW h g = 0 ∧ dn P (sW h g 3) < b.2 then (some g, dn P (sW h g 3)) else b
def ofL (P : PT) (h : HT) : Nat → Option Nat × Nat
  | 0 => (none, 100)
  | i + 1 => oSt P h i (ofL P h i)
def wh (x : Nat) : Int32 := if x ≤ 99 then nI x else -4
def fFreed (s : ST) (p : Int32) : Int32 × ST := match gi (pN (xP s)) p with
  | none => (-1, s)
  | some g => (wh (frL (xP s) g 100 (xH s)), s)
def fTask (s : ST) (p : Int32) : Int32 × ST := match gi (pN (xP s)) p with
  | none => (-1, s)
  | some g => (nI (tsk (xP s) (xH s) g), s)
def fDone (s : ST) : Int32 × ST := (wh (dn (xP s) (xH s)), s)
def fEarly (s : ST) (p q : Int32) : Int32 × ST := match gi (pN (xP s)) p, rg 0 1 q with
  | some g, some w => if hW (xH s) g = 0 then (match eL (xP s) (xH s) g (41 - hT (xH s)) (hT (xH s)) none with
      | none => (-4, s)
      | some r => (if w = 0 then nI r.1 else nI r.2, s)) else (-2, s)
  | _, _ => (-1, s)
def fOff (s : ST) (q : Int32) : Int32 × ST := match rg 0 1 q with
  | none => (-1, s)
  | some w => match (ofL (xP s) (xH s) (pN (xP s))).1 with
    | none => (-4, s)
    | some g => (if w = 0 then nI g else nI (ofL (xP s) (xH s) (pN (xP s))).2, s)
/-- nobody has seen to who is booked -/
def IN (s : ST) : Prop := NS (xP s) (xH s) ∧ (∀ h, h ∈ xU s → NS (xP s) h) ∧ ∀ h, h ∈ xK s → NS (xP s) h
section
variable {P : PT} {h : HT} {l : List Nat}
theorem dn_eq (v : GV P h) (pw : PW P) (n : NS P h) (L : LN P h l) : dn P h = min (oD (oA P h l)) 100 := dnL_min 100 h _ (fun k => ahead_d v pw n L k)
theorem fr_eq (v : GV P h) (pw : PW P) (n : NS P h) (L : LN P h l) {g : Nat} (hg : g < pN P) : frL P g 100 h = min ((oF (oA P h l) g).getD 1000000) 100 := frL_min 100 h _ (fun k hk => by
  rw [ahead_f v pw n L k hg]
  cases oF (oA P h l) g with
  | none => exact ⟨fun ⟨f, z, _⟩ => (Option.some_ne_none f z.symm).elim, fun z => absurd (show 1000000 ≤ k from z) (by omega)⟩
  | some f => exact ⟨fun ⟨f', z, y⟩ => by cases z; exact y, fun z => ⟨f, rfl, z⟩⟩)
theorem tsk_eq (v : GV P h) (pw : PW P) (n : NS P h) (L : LN P h l) {g : Nat} (hg : g < pN P) : tsk P h g = smS P h (hS h g) (pN P) + oL (oA P h l) g := ahead_l v pw n L (by omega) hg
/-- numbers of what is ahead are small -/
theorem ov_all (v : GV P h) (pw : PW P) (L : LN P h l) (l7 : l.length ≤ 7) : ∃ u, OV P 983 u (oA P h l) := by
  have go : ∀ (l2 l1 : List Nat) (u : Nat), l = l1 ++ l2 → OV P (500 + 69 * l1.length) u (l1.foldl (mt P h) (oB P h)) → (∀ x, x ∈ l2 → u ≤ hU h x) → ∃ u, OV P (500 + 69 * l.length) u (oA P h l) := by
    intro l2
    induction l2 with
    | nil =>
      intro l1 u e V _
      rw [List.append_nil] at e
      subst e
      exact ⟨u, V⟩
    | cons x l2 ih =>
      intro l1 u e V ux
      have hx : x ∈ l := by rw [e]; exact List.mem_append_right _ (List.mem_cons_self ..)
      obtain ⟨x1, x2⟩ := (ln_mem L x).mp hx
      obtain ⟨v1, v2, v3, -⟩ := v.2 x x1
      have hb := brg_le (h := h) pw x1 v3
      have Lp := L.1
      rw [e, List.pairwise_append] at Lp
      refine ih (l1 ++ [x]) (hU h x) (by rw [e, List.append_assoc]; rfl) ?_ (fun y hy => (List.pairwise_cons.mp Lp.2.1).1 y hy)
      rw [List.foldl_append, List.length_append]
      have := ov_mt pw V x1 (ux x (List.mem_cons_self ..)) hb v2
      rw [show 500 + 69 * (l1.length + [x].length) = 500 + 69 * l1.length + 69 by rw [show [x].length = 1 from rfl, Nat.mul_add]; omega]
      exact this
  obtain ⟨u, V1, V2, V3⟩ := go l [] (hT h) rfl ⟨fun c e => (v.1 c e).1, fun g hg => ⟨by
    have := (v.2 g hg).2.2.2.1
    have := nb_le h (pN P)
    have := pw.1
    show hD h g ≤ 500 + 69 * 0
    omega, Nat.zero_le _, Nat.le_refl _⟩, (bgD_le P h _ _).mpr (fun g hg _ _ => by
    have hl := lvf_up (w := hD h g) (pw.2 g hg).2.2.2.1
    have := (v.2 g hg).2.2.2.1
    have := nb_le h (pN P)
    have := pw.1
    show lvf P (hD h g) g ≤ 500 + 69 * 0 + 42
    omega)⟩ (fun x hx => by
    obtain ⟨x1, x2⟩ := (ln_mem L x).mp hx
    exact ((v.2 x x1).2.2.2.2.2.2.1 x2).1)
  exact ⟨u, V1, fun g hg => by have := V2 g hg; omega, by omega⟩
/-- freed hours that are told lie below all done -/
theorem ah_fd (v : GV P h) (pw : PW P) (n : NS P h) (L : LN P h l) {g f : Nat} (hg : g < pN P) (e : oF (oA P h l) g = some f) : f ≤ oD (oA P h l) := by
  have d := (ahead_d v pw n L (oD (oA P h l))).mpr (Nat.le_refl _)
  rw [isDnB_iff] at d
  have S := sim_a v pw n L (k := 41) (fun j hj _ => by have := (v.2 j hj).2.1; omega)
  exact ((S.2.2 _).mp (Nat.le_refl _)).1 g f hg e
end
section
variable {T : Nat} {s : ST} {M : Mem}
theorem x_wh {x : Nat} {i : Int32} {post : Int32 → Mem → Prop} (e : (i = nI x ∧ x < 2 ^ 31)) (k : post (wh x) M) : P_NB_withinHorizon M i post := by
  unfold P_NB_withinHorizon B_NB_withinHorizon_i
  unfold wh at k
  rw [e.1]
  by_cases c : x ≤ 99
  · rw [if_pos c] at k
    exact br_f (nI_nlt (a := 99) c (by decide)) k
  · rw [if_neg c] at k
    exact br_t (nI_lt (a := 99) (by omega) e.2) k
theorem wh_min (x : Nat) : wh (min x 100) = wh x := by
  unfold wh
  by_cases c : x ≤ 99
  · rw [show min x 100 = x by omega]
  · rw [if_neg c, if_neg (by omega)]
theorem rx_look {M' : Mem} (R : RX s M) (f : ∀ q, (q < 26 ∨ 40 ≤ q) → M' q = M q) : RX s M' := rx_scr R (fun q hq => f q (by unfold scr at hq; omega))
theorem t20 (I : IX T s) : hT (xH s) < 2 ^ 20 := by have := I.2.2.1.2; have := I.2.2.2.2.2.2.2.2.2.2.2; omega
theorem x_done {post : Int32 → Mem → Prop} (I : IX T s) (n : IN s) (R : RX s M) (k : ∀ M', RX (fDone s).2 M' → post (fDone s).1 M') : P_NB_done M post := by
  have pw := I.1
  have v := I.2.2.1.1
  unfold P_NB_done B_NB_done_i
  refine s_look R.1 pw R.2.1 v (t20 I) (by decide) (Or.inl (by decide)) (fun M1 l L l7 O f => ?_)
  refine x_wh (x := oD (oA (xP s) (xH s) l)) ⟨O.2.1, ?_⟩ ?_
  · obtain ⟨u, -, -, V⟩ := ov_all v pw L l7
    omega
  · have := k M1 (rx_look R (fun q hq => f q (by omega)))
    unfold fDone at this
    rw [dn_eq v pw n.1 L, wh_min] at this
    exact this
theorem x_freed {p : Int32} {post : Int32 → Mem → Prop} (I : IX T s) (n : IN s) (R : RX s M) (k : ∀ M', RX (fFreed s p).2 M' → post (fFreed s p).1 M') : P_NB_freed M p post := by
  have pw := I.1
  have h7 := I.1.1
  have v := I.2.2.1.1
  unfold P_NB_freed B_NB_freed_i
  unfold fFreed at k
  refine s_has R.1.1 h7 (fun g hg e => brn_f (by decide) ?_) (fun q => brn_t rfl ?_)
  · subst e
    rw [gi_some hg (by omega)] at k
    refine s_look R.1 pw R.2.1 v (t20 I) (by decide) (Or.inl (by decide)) (fun M1 l L l7 O f => ⟨vin (by omega) (by decide), ?_⟩)
    rw [cl (by omega)]
    refine x_wh (x := (oF (oA (xP s) (xH s) l) g).getD 1000000) ⟨?_, ?_⟩ ?_
    · rw [(O.2.2 g hg).2.2.1]
      cases oF (oA (xP s) (xH s) l) g <;> rfl
    · obtain ⟨u, -, -, V⟩ := ov_all v pw L l7
      cases e : oF (oA (xP s) (xH s) l) g with
      | none => decide
      | some f =>
        have := ah_fd v pw n.1 L hg e
        show f < 2 ^ 31
        omega
    · have := k M1 (rx_look R (fun q hq => f q (by omega)))
      simp only at this
      rw [fr_eq v pw n.1 L hg, wh_min] at this
      exact this
  · rw [gi_none (by omega) q] at k
    exact k M R
theorem x_task {p : Int32} {post : Int32 → Mem → Prop} (I : IX T s) (n : IN s) (R : RX s M) (k : ∀ M', RX (fTask s p).2 M' → post (fTask s p).1 M') : P_NB_task M p post := by
  have pw := I.1
  have h7 := I.1.1
  have v := I.2.2.1.1
  unfold P_NB_task B_NB_task_i
  unfold fTask at k
  refine s_has R.1.1 h7 (fun g hg e => brn_f (by decide) ?_) (fun q => brn_t rfl ?_)
  · subst e
    rw [gi_some hg (by omega)] at k
    refine s_look R.1 pw R.2.1 v (t20 I) (by decide) (Or.inl (by decide)) (fun M1 l L l7 O f => ?_)
    have R1 := rx_look R (M' := M1) (fun q hq => f q (by omega))
    refine s_load R1.1 pw R1.2.1 hg (gv_b v pw hg).2.1 ⟨vin (by omega) (by decide), ?_⟩
    rw [cl (by omega), (O.2.2 g hg).2.2.2, nI_add, ← tsk_eq v pw n.1 L hg]
    exact k M1 R1
  · rw [gi_none (by omega) q] at k
    exact k M R
end
