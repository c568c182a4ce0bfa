theorem sim_1 {P : PT} {h h' : HT} {o : OS} {k : Nat} (pw : PW P) (S : SIM P h k k h' o) (v : GV P h') (s : NS P h') (Q : ∀ g, g < pN P → hW h g = 0 → hT h + k ≤ hU h g → hW h' g = 0) : ∀ i, i ≤ pN P → SIM P h k (k + 1) (ps1 P i h') (((List.range i).filter (fun g => decide (hW h g = 0 ∧ hU h g = hT h + k))).foldl (mt P h) o) ∧ NS P (ps1 P i h') ∧ ∀ g, g < pN P → hW h g = 0 → (hT h + k < hU h g ∨ (hU h g = hT h + k ∧ i ≤ g)) → hW (ps1 P i h') g = 0
  | 0, _ => by
    refine ⟨⟨S.1, fun g hg => ?_, S.2.2⟩, s, fun g hg a b => Q g hg a (by omega)⟩
    obtain ⟨i1, i2, i3, i4, i5, i6, i7, i8⟩ := S.2.1 g hg
    exact ⟨i1, i2, i3, i4, i5, fun z => (i6 z).imp (fun f y => ⟨y.1, by omega⟩), i7, i8⟩
  | i + 1, hi => by
    obtain ⟨T1, T2, T3⟩ := sim_1 pw S v s Q i (by omega)
    have v1 := gv_ps1 v pw i (by omega)
    rw [List.range_succ, List.filter_append, List.foldl_append]
    unfold ps1
    by_cases c : hW (ps1 P i h') i = 0 ∧ hU (ps1 P i h') i = hT (ps1 P i h')
    · have e1 := ((T1.2.1 i (by omega)).1 c.1).1
      have e2 : hU h i = hT h + k := by rw [← T1.1.1, ← c.2, T1.1.2.2.1]
      rw [if_pos c, List.filter_cons_of_pos (by rw [decide_eq_true_iff]; exact ⟨e1, e2⟩)]
      refine ⟨sim_cm T1 v1 T2 (by omega) c.1 e2, ns_cm T2, fun g hg a b => ?_⟩
      rw [hW_cm, if_neg (fun z => by rw [z] at b; omega)]
      exact T3 g hg a (by omega)
    · have e : ¬ (hW h i = 0 ∧ hU h i = hT h + k) := fun z => c ⟨T3 i (by omega) z.1 (Or.inr ⟨z.2, Nat.le_refl _⟩), by rw [T1.1.2.2.1, T1.1.1]; exact z.2⟩
      rw [if_neg c, List.filter_cons_of_neg (by rw [decide_eq_true_iff]; exact e)]
      exact ⟨T1, T2, fun g hg a b => T3 g hg a (by omega)⟩
theorem sim_23 {P : PT} {h : HT} {o : OS} {k : Nat} (pw : PW P) (v : GV P h) (S : SIM P h k (k + 1) (ps1 P (pN P) (itp P k h)) o) : SIM P h (k + 1) (k + 1) (itp P (k + 1) h) o := by
  have v9 := gv_itp v pw (k + 1)
  obtain ⟨⟨S1, S2, S3, S4⟩, S5, S6⟩ := S
  generalize hh1 : ps1 P (pN P) (itp P k h) = h1 at *
  have e9 : itp P (k + 1) h = sT (ps3 P (pN P) (ps2 P (pN P) h1)) (hT (ps3 P (pN P) (ps2 P (pN P) h1)) + 1) := by rw [← hh1]; rfl
  obtain ⟨a1, a2, a3⟩ := hX_ps2 P h1 (pN P)
  have a4 := hW_ps2 P h1 (pN P)
  obtain ⟨b1, b2, b3, b4⟩ := hX_ps3 P (ps2 P (pN P) h1) (pN P)
  have w1 : hT (itp P (k + 1) h) = hT h1 + 1 := by rw [e9]; show hT (ps3 P (pN P) (ps2 P (pN P) h1)) + 1 = _; rw [hT_ps3, hT_ps2]
  have w2 : hC (itp P (k + 1) h) = hC h1 := by rw [e9]; exact b1.trans a1
  have w3 : hU (itp P (k + 1) h) = hU h1 := by rw [e9]; show hU (ps3 P (pN P) (ps2 P (pN P) h1)) = _; rw [hU_ps3, hU_ps2]
  have w4 : hR (itp P (k + 1) h) = hR h1 := by rw [e9]; show hR (ps3 P (pN P) (ps2 P (pN P) h1)) = _; rw [hR_ps3, hR_ps2]
  have w5 : hS (itp P (k + 1) h) = hS h1 := by rw [e9]; exact b2.trans a2
  have w6 : ∀ g, g < pN P → hD (itp P (k + 1) h) g = if hW h1 g = 1 then hD h1 g - pS P g else hD h1 g := fun g hg => by
    rw [e9]
    show hD (ps3 P (pN P) (ps2 P (pN P) h1)) g = _
    rw [b3, a3]
    by_cases c : hW h1 g = 1
    · rw [if_pos ⟨hg, c⟩, if_pos c]
    · rw [if_neg (fun z => c z.2), if_neg c]
  have w7 : ∀ g, g < pN P → hW (itp P (k + 1) h) g = if hW h1 g = 1 ∧ ¬ oC o = some g ∧ hD h1 g - pS P g = 0 then 2 else hW h1 g := fun g hg => by
    rw [e9]
    show hW (ps3 P (pN P) (ps2 P (pN P) h1)) g = _
    have x := a3 g
    by_cases c : hW h1 g = 1
    · rw [if_pos (And.intro hg c)] at x
      rw [b4, a4, a1, x, S2]
      by_cases d : ¬ oC o = some g ∧ hD h1 g - pS P g = 0
      · rw [if_pos (And.intro hg (And.intro c d)), if_pos (And.intro c d)]
      · rw [if_neg (fun z => d z.2.2), if_neg (fun z => d z.2)]
    · rw [if_neg (fun z => c z.2)] at x
      rw [b4, a4, a1, x, S2, if_neg (fun z => c z.2.1), if_neg (fun z => c z.1)]
  refine ⟨⟨by rw [w1, S1]; omega, w2.trans S2, w3.trans S3, w4.trans S4⟩, fun g hg => ?_, fun q => ?_⟩
  · obtain ⟨i1, i2, i3, i4, i5, i6, i7, i8⟩ := S5 g hg
    have sp := (pw.2 g hg).2.2.2.1
    have u := w7 g hg
    have d := w6 g hg
    have eD : hW h1 g = 1 → hD h1 g - pS P g = oW o g - pS P g * (hT h + (k + 1) - oS o g) := fun c => by
      obtain ⟨j1, j2, j3⟩ := i2 c
      rw [j1, Nat.sub_sub, show hT h + (k + 1) - oS o g = (hT h + k - oS o g) + 1 by omega, Nat.mul_succ]
    have eF : hW h1 g = 1 → (oS o g - hT h + lvf P (oW o g) g ≤ k + 1 ↔ hD h1 g - pS P g = 0) := fun c => by
      obtain ⟨j1, j2, j3⟩ := i2 c
      rw [eD c, Nat.sub_eq_zero_iff_le, ← lvf_le sp (show 1 ≤ hT h + (k + 1) - oS o g by omega)]
      omega
    have c1 : hW (itp P (k + 1) h) g = 0 → hW h1 g = 0 := fun z => by
      rw [u] at z; split at z
      · cases z
      · exact z
    have c3 : hW (itp P (k + 1) h) g = 1 → hW h1 g = 1 ∧ ¬ (¬ oC o = some g ∧ hD h1 g - pS P g = 0) := fun z => by
      rw [u] at z; split at z
      · cases z
      · rename_i y; exact ⟨z, fun x => y ⟨z, x⟩⟩
    have p1 : hW (itp P (k + 1) h) g = 0 → oF o g = none := fun z => (i1 (c1 z)).2.2.2.2
    have p3 : hW (itp P (k + 1) h) g = 1 → ¬ oC o = some g → oF o g = some (oS o g - hT h + lvf P (oW o g) g) ∧ k + 1 < oS o g - hT h + lvf P (oW o g) g := fun z y => by
      obtain ⟨x1, x2⟩ := c3 z
      refine ⟨(i3 x1 y).1, ?_⟩
      have := eF x1
      have : ¬ hD h1 g - pS P g = 0 := fun x => x2 ⟨y, x⟩
      omega
    have p5 : hW (itp P (k + 1) h) g = 3 → oF o g = none := fun z => by
      rw [u] at z; split at z
      · cases z
      · exact i5 z
    have p6 : hW (itp P (k + 1) h) g = 2 → ∃ f, oF o g = some f ∧ f ≤ k + 1 := fun z => by
      rw [u] at z; split at z
      · rename_i y
        exact ⟨_, (i3 y.1 y.2.1).1, (eF y.1).mpr y.2.2⟩
      · exact i6 z
    refine ⟨fun z => ?_, fun z => ?_, p3, i4, p5, p6, by rw [w5]; exact i7, fun j hj => ?_⟩
    · have c0 := c1 z
      obtain ⟨y1, y2, y3, y4, y5⟩ := i1 c0
      exact ⟨y1, by rw [d, if_neg (by omega)]; exact y2, y3, y4, y5⟩
    · obtain ⟨x1, x2⟩ := c3 z
      obtain ⟨j1, j2, j3⟩ := i2 x1
      exact ⟨by rw [d, if_pos x1]; exact eD x1, j2, by omega⟩
    · by_cases y : j ≤ k
      · exact i8 j y
      · have : j = k + 1 := by omega
        subst this
        refine ⟨p6, fun ⟨f, x1, x2⟩ => ?_⟩
        have w3 := (v9.2 g hg).1
        have n0 : ¬ hW (itp P (k + 1) h) g = 0 := fun z => by rw [p1 z] at x1; cases x1
        have n3 : ¬ hW (itp P (k + 1) h) g = 3 := fun z => by rw [p5 z] at x1; cases x1
        have n1 : ¬ hW (itp P (k + 1) h) g = 1 := fun z => by
          by_cases y : oC o = some g
          · rw [i4 y] at x1; cases x1
          · have := p3 z y
            rw [this.1] at x1
            have := Option.some.inj x1
            omega
        omega
  · rw [S6 q]
    refine and_congr Iff.rfl ⟨fun z g hg a b => z g hg a (fun y => b ?_), fun z g hg a b => z g hg a (fun y => b ?_)⟩
    · rw [w7 g hg, if_neg (fun x => by have := x.1; omega)]; exact y
    · have u := w7 g hg
      rw [y] at u
      split at u
      · cases u
      · exact u.symm
/-- the line: who is booked, the sooner ahead, those of one hour as they were told -/
def LN (P : PT) (h : HT) (l : List Nat) : Prop := l.Pairwise (fun a b => hU h a ≤ hU h b) ∧ ∀ t, l.filter (fun g => decide (hU h g = t)) = (List.range (pN P)).filter (fun g => decide (hW h g = 0 ∧ hU h g = t))
theorem ln_mem {P : PT} {h : HT} {l : List Nat} (L : LN P h l) (g : Nat) : g ∈ l ↔ g < pN P ∧ hW h g = 0 := by
  have e := L.2 (hU h g)
  constructor
  · intro z
    have : g ∈ l.filter (fun j => decide (hU h j = hU h g)) := List.mem_filter.mpr ⟨z, decide_eq_true rfl⟩
    rw [e, List.mem_filter, List.mem_range, decide_eq_true_iff] at this
    exact ⟨this.1, this.2.1⟩
  · intro z
    have : g ∈ (List.range (pN P)).filter (fun j => decide (hW h j = 0 ∧ hU h j = hU h g)) := List.mem_filter.mpr ⟨List.mem_range.mpr z.1, decide_eq_true ⟨z.2, rfl⟩⟩
    rw [← e, List.mem_filter] at this
    exact this.1
theorem flt_nil {l : List Nat} {p : Nat → Bool} (h : ∀ a, a ∈ l → p a = false) : l.filter p = [] := List.filter_eq_nil_iff.mpr (fun a ha => by rw [h a ha]; decide)
theorem flt_all {l : List Nat} {p : Nat → Bool} (h : ∀ a, a ∈ l → p a = true) : l.filter p = l := List.filter_eq_self.mpr h
theorem flt_split {f : Nat → Nat} {t : Nat} : ∀ l : List Nat, l.Pairwise (fun a b => f a ≤ f b) → l.filter (fun g => decide (f g < t + 1)) = l.filter (fun g => decide (f g < t)) ++ l.filter (fun g => decide (f g = t))
  | [], _ => rfl
  | a :: l, h => by
    rw [List.pairwise_cons] at h
    have ih := flt_split (t := t) l h.2
    by_cases c : f a < t
    · rw [List.filter_cons_of_pos (by rw [decide_eq_true_iff]; omega), List.filter_cons_of_pos (by rw [decide_eq_true_iff]; omega), List.filter_cons_of_neg (by rw [decide_eq_true_iff]; omega), ih]; rfl
    · have n : l.filter (fun g => decide (f g < t)) = [] := flt_nil (fun b hb => decide_eq_false (by have := h.1 b hb; omega))
      rw [n] at ih
      by_cases d : f a = t
      · rw [List.filter_cons_of_pos (by rw [decide_eq_true_iff]; omega), List.filter_cons_of_neg (by rw [decide_eq_true_iff]; omega), List.filter_cons_of_pos (by rw [decide_eq_true_iff]; omega), ih, n]; rfl
      · rw [List.filter_cons_of_neg (by rw [decide_eq_true_iff]; omega), List.filter_cons_of_neg (by rw [decide_eq_true_iff]; omega), List.filter_cons_of_neg (by rw [decide_eq_true_iff]; omega), ih, n]
/-- ahead, when all in the line have come -/
def oA (P : PT) (h : HT) (l : List Nat) : OS := l.foldl (mt P h) (oB P h)
theorem sim_k {P : PT} {h : HT} {l : List Nat} (v : GV P h) (pw : PW P) (s : NS P h) (L : LN P h l) : ∀ k, SIM P h k k (itp P k h) (oA P h (l.filter (fun g => decide (hU h g < hT h + k)))) ∧ ∀ g, g < pN P → hW h g = 0 → hT h + k ≤ hU h g → hW (itp P k h) g = 0
  | 0 => by
    rw [flt_nil (fun a ha => decide_eq_false (by
      obtain ⟨a1, a2⟩ := (ln_mem L a).mp ha
      have := ((v.2 a a1).2.2.2.2.2.2.1 a2).1
      omega))]
    exact ⟨sim_0 v, fun g hg a _ => a⟩
  | k + 1 => by
    obtain ⟨S, Q⟩ := sim_k v pw s L k
    obtain ⟨S1, -, S3⟩ := sim_1 pw S (gv_itp v pw k) (ns_itp s k) Q (pN P) (Nat.le_refl _)
    rw [← L.2 (hT h + k)] at S1
    have S2 := sim_23 pw v S1
    have e : l.filter (fun g => decide (hU h g < hT h + (k + 1))) = l.filter (fun g => decide (hU h g < hT h + k)) ++ l.filter (fun g => decide (hU h g = hT h + k)) := flt_split l L.1
    refine ⟨?_, fun g hg a b => ?_⟩
    · rw [e]
      unfold oA at S2 ⊢
      rw [List.foldl_append]
      exact S2
    · have z := S3 g hg a (by omega)
      show hW (ps3 P (pN P) (ps2 P (pN P) (ps1 P (pN P) (itp P k h)))) g = 0
      rw [(hX_ps3 P _ _).2.2.2, hW_ps2, if_neg (fun y => by have := y.2.1; omega)]
      exact z
theorem isDnB_iff (P : PT) (h : HT) : ∀ i, isDnB P h i = true ↔ ∀ g, g < i → ¬ hW h g = 0 ∧ (hW h g = 1 → hC h = some g)
  | 0 => ⟨fun _ g hg => absurd hg (Nat.not_lt_zero _), fun _ => rfl⟩
  | i + 1 => by
    have ih := isDnB_iff P h i
    unfold isDnB
    rw [Bool.and_eq_true, Bool.and_eq_true, Bool.or_eq_true, decide_eq_true_iff, decide_eq_true_iff, decide_eq_true_iff, ih]
    refine ⟨fun z g hg => ?_, fun z => ⟨fun g hg => z g (by omega), (z i (by omega)).1, ?_⟩⟩
    · by_cases y : g = i
      · subst y; exact ⟨z.2.1, fun w => z.2.2.resolve_left (fun x => x w)⟩
      · exact z.1 g (by omega)
    · by_cases w : hW h i = 1
      · exact Or.inr ((z i (by omega)).2 w)
      · exact Or.inl w
section
variable {P : PT} {h : HT} {l : List Nat}
theorem ln_all (L : LN P h l) {k : Nat} (e : ∀ g, g < pN P → hW h g = 0 → hU h g < hT h + k) : l.filter (fun g => decide (hU h g < hT h + k)) = l :=
  flt_all (fun a ha => decide_eq_true (e a ((ln_mem L a).mp ha).1 ((ln_mem L a).mp ha).2))
theorem sim_a (v : GV P h) (pw : PW P) (s : NS P h) (L : LN P h l) {k : Nat} (e : ∀ g, g < pN P → hW h g = 0 → hU h g < hT h + k) : SIM P h k k (itp P k h) (oA P h l) := by
  have := (sim_k v pw s L k).1
  rw [ln_all L e] at this
  exact this
theorem ahead_f (v : GV P h) (pw : PW P) (s : NS P h) (L : LN P h l) (k : Nat) {g : Nat} (hg : g < pN P) : hW (itp P k h) g = 2 ↔ ∃ f, oF (oA P h l) g = some f ∧ f ≤ k :=
  ((sim_a v pw s L (k := k + 41) (fun j hj _ => by have := (v.2 j hj).2.1; omega)).2.1 g hg).2.2.2.2.2.2.2 k (by omega)
theorem ahead_l (v : GV P h) (pw : PW P) (s : NS P h) (L : LN P h l) {k : Nat} (hk : 41 ≤ hT h + k) {g : Nat} (hg : g < pN P) : smS P h (hS (itp P k h) g) (pN P) = smS P h (hS h g) (pN P) + oL (oA P h l) g :=
  ((sim_a v pw s L (k := k) (fun j hj _ => by have := (v.2 j hj).2.1; omega)).2.1 g hg).2.2.2.2.2.2.1
theorem ahead_d (v : GV P h) (pw : PW P) (s : NS P h) (L : LN P h l) (k : Nat) : isDnB P (itp P k h) (pN P) = true ↔ oD (oA P h l) ≤ k := by
  rw [isDnB_iff]
  have vk := gv_itp v pw k
  constructor
  · intro z
    have Q := (sim_k v pw s L k).2
    have S := sim_a v pw s L (k := k) (fun g hg a => Nat.not_le.mp (fun y => (z g hg).1 (Q g hg a y)))
    refine (S.2.2 k).mpr ⟨fun g f hg e => ?_, fun g hg a b => ?_⟩
    · obtain ⟨i1, i2, i3, i4, i5, i6, i7, i8⟩ := S.2.1 g hg
      have w := (vk.2 g hg).1
      have n3 : ¬ hW (itp P k h) g = 3 := fun y => by rw [i5 y] at e; cases e
      have n1 : ¬ hW (itp P k h) g = 1 := fun y => by
        have := S.1.2.1.symm.trans ((z g hg).2 y)
        rw [i4 this] at e; cases e
      obtain ⟨f', x1, x2⟩ := i6 (by have := (z g hg).1; omega)
      rw [e] at x1; cases x1; exact x2
    · have : ¬ hT h + k ≤ hU h g := fun y => b (Q g hg a y)
      have := ((v.2 g hg).2.2.2.2.2.2.1 a).1
      omega
  · intro z
    have S0 := sim_a v pw s L (k := k + 41) (fun j hj _ => by have := (v.2 j hj).2.1; omega)
    have v0 := gv_itp v pw (k + 41)
    obtain ⟨z1, z2⟩ := (S0.2.2 k).mp z
    have e : ∀ g, g < pN P → hW h g = 0 → hU h g < hT h + k := fun g hg a => by
      have b : ¬ hW (itp P (k + 41) h) g = 0 := fun y => by
        have x := ((v0.2 g hg).2.2.2.2.2.2.1 y).1
        rw [S0.1.1, S0.1.2.2.1] at x
        have := (v.2 g hg).2.1
        omega
      have := z2 g hg a b
      have := ((v.2 g hg).2.2.2.2.2.2.1 a).1
      omega
    have S := sim_a v pw s L e
    intro g hg
    obtain ⟨i1, i2, i3, i4, i5, i6, i7, i8⟩ := S.2.1 g hg
    refine ⟨fun y => ?_, fun y => Classical.byContradiction (fun x => ?_)⟩
    · have x := ((vk.2 g hg).2.2.2.2.2.2.1 y).1
      rw [S.1.1, S.1.2.2.1] at x
      have := e g hg (i1 y).1
      omega
    · obtain ⟨w1, w2⟩ := i3 y (fun w => x (S.1.2.1.trans w))
      have := z1 g _ hg w1
      omega
end
