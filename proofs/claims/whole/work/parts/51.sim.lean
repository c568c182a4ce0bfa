def SG (P : PT) (h : HT) (k e : Nat) (h' : HT) (o : OS) (g : Nat) : Prop :=
  (hW h' g = 0 → hW h g = 0 ∧ hD h' g = 0 ∧ oW o g = 0 ∧ oS o g = hT h ∧ oF o g = none) ∧
  (hW h' g = 1 → hD h' g = oW o g - pS P g * (hT h + k - oS o g) ∧ hT h ≤ oS o g ∧ oS o g ≤ hT h + k) ∧
  (hW h' g = 1 → ¬ oC o = some g → oF o g = some (oS o g - hT h + lvf P (oW o g) g) ∧ k < oS o g - hT h + lvf P (oW o g) g) ∧
  (oC o = some g → oF o g = none) ∧
  (hW h' g = 3 → oF o g = none) ∧
  (hW h' g = 2 → ∃ f, oF o g = some f ∧ f ≤ e) ∧
  smS P h (hS h' g) (pN P) = smS P h (hS h g) (pN P) + oL o g ∧
  ∀ j, j ≤ k → (hW (itp P j h) g = 2 ↔ ∃ f, oF o g = some f ∧ f ≤ j)
def SIM (P : PT) (h : HT) (k e : Nat) (h' : HT) (o : OS) : Prop :=
  (hT h' = hT h + k ∧ hC h' = oC o ∧ hU h' = hU h ∧ hR h' = hR h) ∧
  (∀ g, g < pN P → SG P h k e h' o g) ∧
  ∀ q, oD o ≤ q ↔ (∀ g f, g < pN P → oF o g = some f → f ≤ q) ∧ ∀ g, g < pN P → hW h g = 0 → ¬ hW h' g = 0 → hU h g - hT h + 1 ≤ q
theorem bgD_le (P : PT) (h : HT) (q : Nat) : ∀ i, bgD P h i ≤ q ↔ ∀ g, g < i → hW h g = 1 → ¬ hC h = some g → lvf P (hD h g) g ≤ q
  | 0 => ⟨fun _ g hg => absurd hg (Nat.not_lt_zero _), fun _ => Nat.zero_le _⟩
  | i + 1 => by
    have ih := bgD_le P h q i
    unfold bgD
    by_cases c : hW h i = 1 ∧ ¬ hC h = some i
    · rw [if_pos c, Nat.max_le, ih]
      refine ⟨fun z g hg a b => ?_, fun z => ⟨fun g hg => z g (by omega), z i (by omega) c.1 c.2⟩⟩
      by_cases y : g = i
      · subst y; exact z.2
      · exact z.1 g (by omega) a b
    · rw [if_neg c, ih]
      refine ⟨fun z g hg a b => ?_, fun z g hg => z g (by omega)⟩
      by_cases y : g = i
      · subst y; exact absurd ⟨a, b⟩ c
      · exact z g (by omega) a b
theorem bgF_2 {P : PT} {h : HT} {g : Nat} (c : hW h g = 2) : bgF P h g = some 0 := by unfold bgF; rw [if_pos c]
theorem bgF_1 {P : PT} {h : HT} {g : Nat} (c : hW h g = 1) (d : ¬ hC h = some g) : bgF P h g = some (lvf P (hD h g) g) := by unfold bgF; rw [if_neg (by omega), if_pos ⟨c, d⟩]
theorem bgF_n {P : PT} {h : HT} {g : Nat} (c : ¬ hW h g = 2) (d : ¬ (hW h g = 1 ∧ ¬ hC h = some g)) : bgF P h g = none := by unfold bgF; rw [if_neg c, if_neg d]
theorem sim_0 {P : PT} {h : HT} (v : GV P h) : SIM P h 0 0 h (oB P h) := by
  have key : ∀ g f, bgF P h g = some f → (hW h g = 2 ∧ f = 0) ∨ (hW h g = 1 ∧ ¬ hC h = some g ∧ f = lvf P (hD h g) g) := by
    intro g f e
    by_cases c : hW h g = 2
    · rw [bgF_2 c] at e; cases e; exact Or.inl ⟨c, rfl⟩
    · by_cases d : hW h g = 1 ∧ ¬ hC h = some g
      · rw [bgF_1 d.1 d.2] at e; cases e; exact Or.inr ⟨d.1, d.2, rfl⟩
      · rw [bgF_n c d] at e; cases e
  refine ⟨⟨rfl, rfl, rfl, rfl⟩, fun g hg => ⟨fun c => ⟨c, ((v.2 g hg).2.2.2.2.2.2.1 c).2.1, ((v.2 g hg).2.2.2.2.2.2.1 c).2.1, rfl, bgF_n (by omega) (fun z => by have := z.1; omega)⟩, fun c => ⟨?_, Nat.le_refl _, Nat.le_refl _⟩, fun c d => ?_, fun c => ?_, fun c => bgF_n (by omega) (fun z => by have := z.1; omega), fun c => ⟨0, bgF_2 c, Nat.le_refl _⟩, rfl, fun j hj => ?_⟩, fun q => ?_⟩
  · show hD h g = hD h g - pS P g * (hT h + 0 - hT h)
    rw [Nat.add_zero, Nat.sub_self, Nat.mul_zero, Nat.sub_zero]
  · show bgF P h g = some (hT h - hT h + lvf P (hD h g) g) ∧ 0 < hT h - hT h + lvf P (hD h g) g
    rw [Nat.sub_self, Nat.zero_add]
    exact ⟨bgF_1 c d, lvf_1 _ _ _⟩
  · have c : hC h = some g := c
    have := v.1 g c
    exact bgF_n (by omega) (fun z => z.2 c)
  · have : j = 0 := by omega
    subst this
    refine ⟨fun c => ⟨0, bgF_2 c, Nat.le_refl _⟩, fun ⟨f, e, l⟩ => ?_⟩
    rcases key g f e with z | z
    · exact z.1
    · have := lvf_1 P (hD h g) g
      omega
  · show bgD P h (pN P) ≤ q ↔ _
    rw [bgD_le]
    refine ⟨fun z => ⟨fun g f hg e => ?_, fun g hg a b => absurd a b⟩, fun z g hg a b => z.1 g _ hg (bgF_1 a b)⟩
    rcases key g f e with y | y
    · omega
    · rw [y.2.2]; exact z g hg y.1 y.2.1
theorem brg_R {P : PT} {h h' : HT} (e : hR h' = hR h) (g : Nat) : brg P h' g = brg P h g := by unfold brg; rw [e]
theorem sim_cm {P : PT} {h h' : HT} {o : OS} {k g : Nat} (S : SIM P h k (k + 1) h' o) (v : GV P h') (s : NS P h') (hg : g < pN P) (h0 : hW h' g = 0) (hu : hU h g = hT h + k) : SIM P h k (k + 1) (cm P h' g) (mt P h o g) := by
  obtain ⟨⟨S1, S2, S3, S4⟩, S5, S6⟩ := S
  have ha : hU h g - hT h = k := by omega
  have hb := brg_R (P := P) S4 g
  obtain ⟨g1, g2, g3, g4, g5, g6, g7, g8⟩ := S5 g hg
  obtain ⟨q1, q2, q3, q4, q5⟩ := g1 h0
  have hcg : ¬ oC o = some g := fun z => by have := (v.1 g (S2.trans z)).2; omega
  -- who has come
  have hB' : ∀ q, (∀ i, i < pN P → hW h i = 0 → ¬ hW (cm P h' g) i = 0 → hU h i - hT h + 1 ≤ q) ↔ (∀ i, i < pN P → hW h i = 0 → ¬ hW h' i = 0 → hU h i - hT h + 1 ≤ q) ∧ k + 1 ≤ q := by
    intro q
    constructor
    · intro z
      refine ⟨fun i hi a b => z i hi a ?_, ?_⟩
      · rw [hW_cm, if_neg (fun y => b (by rw [y]; exact h0))]; exact b
      · have := z g hg q1 (by rw [hW_cm, if_pos rfl]; split <;> decide)
        omega
    · intro z i hi a b
      by_cases y : i = g
      · subst y; omega
      · rw [hW_cm, if_neg y] at b
        exact z.1 i hi a b
  have hA' : ∀ x f0 q, x < pN P → oF o x = none → ((∀ i f, i < pN P → va_up (oF o) x (some f0) i = some f → f ≤ q) ↔ (∀ i f, i < pN P → oF o i = some f → f ≤ q) ∧ f0 ≤ q) := by
    intro x f0 q hx e
    constructor
    · intro z
      refine ⟨fun i f hi y => z i f hi ?_, z x f0 hx (up_s _ _ _)⟩
      rw [up_n (fun w => by rw [w, e] at y; cases y)]; exact y
    · intro z i f hi y
      by_cases w : i = x
      · subst w; rw [up_s] at y; cases y; exact z.2
      · rw [up_n w] at y; exact z.1 i f hi y
  have hist : ∀ {i f0 : Nat}, k < f0 → oF o i = none → (∀ j, j ≤ k → (hW (itp P j h) i = 2 ↔ ∃ f, oF o i = some f ∧ f ≤ j)) → ∀ j, j ≤ k → (hW (itp P j h) i = 2 ↔ ∃ f, some f0 = some f ∧ f ≤ j) := by
    intro i f0 hf e z j hj
    rw [z j hj, e]
    exact ⟨fun ⟨f, a, b⟩ => (Option.some_ne_none f a.symm).elim, fun ⟨f, a, b⟩ => by cases a; omega⟩
  cases hc : oC o with
  | none =>
    have hC' : hC h' = none := S2.trans hc
    have eD : ∀ j, hD (cm P h' g) j = hD h' j := fun j => by rw [hD_cm, hC', if_neg (fun z => by cases z)]
    have eS : ∀ j, hS (cm P h' g) j = hS h' j := fun j => by rw [hS_cm, hC', if_neg (fun z => by cases z)]
    by_cases kb : pK P g = 2
    · have em : mt P h o g = mO none (oW o) (oS o) (va_up (oF o) g (some (k + 1))) (oL o) (max (oD o) (k + 1)) := by unfold mt; rw [hc]; simp only; rw [if_pos kb, ha]
      rw [em]
      refine ⟨⟨by rw [hT_cm]; exact S1, by rw [hC_cm, if_pos kb]; exact hC', by rw [hU_cm]; exact S3, by rw [hR_cm]; exact S4⟩, fun i hi => ?_, fun q => ?_⟩
      · obtain ⟨i1, i2, i3, i4, i5, i6, i7, i8⟩ := S5 i hi
        unfold SG
        rw [hW_cm, eD, eS]
        show (_ → _ ∧ _ ∧ _ ∧ _ ∧ va_up (oF o) g (some (k + 1)) i = none) ∧ _ ∧ (_ → ¬ none = some i → va_up (oF o) g (some (k + 1)) i = _ ∧ _) ∧ (none = some i → va_up (oF o) g (some (k + 1)) i = none) ∧ (_ → va_up (oF o) g (some (k + 1)) i = none) ∧ (_ → ∃ f, va_up (oF o) g (some (k + 1)) i = some f ∧ f ≤ k + 1) ∧ _ ∧ ∀ j, j ≤ k → (_ ↔ ∃ f, va_up (oF o) g (some (k + 1)) i = some f ∧ f ≤ j)
        by_cases y : i = g
        · subst y
          rw [if_pos rfl, if_pos kb, up_s]
          exact ⟨fun z => absurd z (by decide), fun z => absurd z (by decide), fun z => absurd z (by decide), fun z => (Option.some_ne_none _ z.symm).elim, fun z => absurd z (by decide), fun _ => ⟨k + 1, rfl, Nat.le_refl _⟩, i7, hist (by omega) q5 i8⟩
        · rw [if_neg y, up_n y]
          exact ⟨i1, i2, fun a _ => i3 a (by rw [hc]; exact fun z => Option.some_ne_none _ z.symm), fun z => (Option.some_ne_none _ z.symm).elim, i5, i6, i7, i8⟩
      · show max (oD o) (k + 1) ≤ q ↔ (∀ i f, i < pN P → va_up (oF o) g (some (k + 1)) i = some f → f ≤ q) ∧ _
        rw [Nat.max_le, S6 q, hA' g (k + 1) q hg q5, hB' q]
        exact ⟨fun z => ⟨⟨z.1.1, z.2⟩, z.1.2, z.2⟩, fun z => ⟨⟨z.1.1, z.2.1⟩, z.1.2⟩⟩
    · have em : mt P h o g = mO (some g) (oW o) (oS o) (oF o) (oL o) (max (oD o) (k + 1)) := by unfold mt; rw [hc]; simp only; rw [if_neg kb, ha]
      rw [em]
      refine ⟨⟨by rw [hT_cm]; exact S1, by rw [hC_cm, if_neg kb]; rfl, by rw [hU_cm]; exact S3, by rw [hR_cm]; exact S4⟩, fun i hi => ?_, fun q => ?_⟩
      · obtain ⟨i1, i2, i3, i4, i5, i6, i7, i8⟩ := S5 i hi
        unfold SG
        rw [hW_cm, eD, eS]
        show _ ∧ _ ∧ (_ → ¬ some g = some i → _) ∧ (some g = some i → oF o i = none) ∧ _
        by_cases y : i = g
        · subst y
          rw [if_pos rfl, if_neg kb]
          refine ⟨fun z => absurd z (by decide), fun _ => ?_, fun _ z => absurd rfl z, fun _ => q5, fun z => absurd z (by decide), fun z => absurd z (by decide), i7, i8⟩
          show hD h' i = oW o i - _ ∧ hT h ≤ oS o i ∧ oS o i ≤ hT h + k
          rw [q2, q3, q4, Nat.zero_sub]
          exact ⟨rfl, Nat.le_refl _, Nat.le_add_right _ _⟩
        · rw [if_neg y]
          exact ⟨i1, i2, fun a _ => i3 a (by rw [hc]; exact fun z => Option.some_ne_none _ z.symm), fun z => absurd (Option.some.inj z).symm y, i5, i6, i7, i8⟩
      · show max (oD o) (k + 1) ≤ q ↔ (∀ i f, i < pN P → oF o i = some f → f ≤ q) ∧ _
        rw [Nat.max_le, S6 q, hB' q]
        exact ⟨fun z => ⟨z.1.1, z.1.2, z.2⟩, fun z => ⟨⟨z.1, z.2.1⟩, z.2.2⟩⟩
  | some c =>
    have hC' : hC h' = some c := S2.trans hc
    obtain ⟨hcn, hc1⟩ := v.1 c hC'
    have hgc : g ≠ c := fun z => hcg (by rw [z]; exact hc)
    obtain ⟨c1, c2, c3, c4, c5, c6, c7, c8⟩ := S5 c hcn
    have cF := c4 hc
    obtain ⟨c21, c22, c23⟩ := c2 hc1
    have eW : mtW P h o c g = hD h' c + brg P h g := by unfold mtW; rw [hu, c21]
    have eD : ∀ j, j ≠ c → hD (cm P h' g) j = hD h' j := fun j hj => by rw [hD_cm, hC', if_neg (fun z => hj (Option.some.inj z).symm)]
    have eS : ∀ j, j ≠ c → hS (cm P h' g) j = hS h' j := fun j hj => by rw [hS_cm, hC', if_neg (fun z => hj (Option.some.inj z).symm)]
    have eDc : hD (cm P h' g) c = mtW P h o c g := by rw [hD_cm, hC', if_pos rfl, hb, eW]
    have eSc : smS P h (hS (cm P h' g) c) (pN P) = smS P h (hS h c) (pN P) + (oL o c + brg P h g) := by
      rw [hS_cm, hC', if_pos rfl, smS_or (s g hg h0 c hcn), if_pos hg, c7, Nat.add_assoc]
    by_cases kb : pK P g = 2
    · have em : mt P h o g = mO (some c) (va_up (oW o) c (mtW P h o c g)) (va_up (oS o) c (hT h + k)) (va_up (oF o) g (some (k + 1))) (va_up (oL o) c (oL o c + brg P h g)) (max (oD o) (k + 1)) := by unfold mt; rw [hc]; simp only; rw [if_pos kb, ha, hu]
      rw [em]
      refine ⟨⟨by rw [hT_cm]; exact S1, by rw [hC_cm, if_pos kb]; exact hC', by rw [hU_cm]; exact S3, by rw [hR_cm]; exact S4⟩, fun i hi => ?_, fun q => ?_⟩
      · obtain ⟨i1, i2, i3, i4, i5, i6, i7, i8⟩ := S5 i hi
        unfold SG
        rw [hW_cm]
        show (_ → _ ∧ _ ∧ va_up (oW o) c (mtW P h o c g) i = 0 ∧ va_up (oS o) c (hT h + k) i = _ ∧ va_up (oF o) g (some (k + 1)) i = none) ∧ (_ → _ = va_up (oW o) c (mtW P h o c g) i - pS P i * (hT h + k - va_up (oS o) c (hT h + k) i) ∧ _ ≤ va_up (oS o) c (hT h + k) i ∧ va_up (oS o) c (hT h + k) i ≤ _) ∧ (_ → ¬ some c = some i → va_up (oF o) g (some (k + 1)) i = some (va_up (oS o) c (hT h + k) i - hT h + lvf P (va_up (oW o) c (mtW P h o c g) i) i) ∧ k < va_up (oS o) c (hT h + k) i - hT h + lvf P (va_up (oW o) c (mtW P h o c g) i) i) ∧ (some c = some i → va_up (oF o) g (some (k + 1)) i = none) ∧ (_ → va_up (oF o) g (some (k + 1)) i = none) ∧ (_ → ∃ f, va_up (oF o) g (some (k + 1)) i = some f ∧ f ≤ k + 1) ∧ _ = _ + va_up (oL o) c (oL o c + brg P h g) i ∧ ∀ j, j ≤ k → (_ ↔ ∃ f, va_up (oF o) g (some (k + 1)) i = some f ∧ f ≤ j)
        by_cases y : i = g
        · subst y
          rw [if_pos rfl, if_pos kb, up_s, up_n hgc, up_n hgc, up_n hgc, eS _ hgc]
          exact ⟨fun z => absurd z (by decide), fun z => absurd z (by decide), fun z => absurd z (by decide), fun z => absurd (Option.some.inj z).symm hgc, fun z => absurd z (by decide), fun _ => ⟨k + 1, rfl, Nat.le_refl _⟩, i7, hist (by omega) q5 i8⟩
        · rw [if_neg y, up_n y]
          by_cases yc : i = c
          · subst yc
            rw [up_s, up_s, up_s, eDc, eSc]
            refine ⟨fun z => absurd (hc1.symm.trans z) (by decide), fun _ => ⟨?_, by omega, by omega⟩, fun _ z => absurd rfl z, fun _ => cF, fun z => absurd (hc1.symm.trans z) (by decide), fun z => absurd (hc1.symm.trans z) (by decide), rfl, i8⟩
            rw [Nat.sub_self, Nat.mul_zero, Nat.sub_zero]
          · rw [up_n yc, up_n yc, up_n yc, eD _ yc, eS _ yc]
            exact ⟨i1, i2, fun a _ => i3 a (by rw [hc]; exact fun z => yc (Option.some.inj z).symm), fun z => absurd (Option.some.inj z).symm yc, i5, i6, i7, i8⟩
      · show max (oD o) (k + 1) ≤ q ↔ (∀ i f, i < pN P → va_up (oF o) g (some (k + 1)) i = some f → f ≤ q) ∧ _
        rw [Nat.max_le, S6 q, hA' g (k + 1) q hg q5, hB' q]
        exact ⟨fun z => ⟨⟨z.1.1, z.2⟩, z.1.2, z.2⟩, fun z => ⟨⟨z.1.1, z.2.1⟩, z.1.2⟩⟩
    · have em : mt P h o g = mO (some g) (va_up (oW o) c (mtW P h o c g)) (va_up (oS o) c (hT h + k)) (va_up (oF o) c (some (k + lvf P (mtW P h o c g) c))) (va_up (oL o) c (oL o c + brg P h g)) (max (max (oD o) (k + 1)) (k + lvf P (mtW P h o c g) c)) := by unfold mt; rw [hc]; simp only; rw [if_neg kb, ha, hu]
      have l1 := lvf_1 P (mtW P h o c g) c
      rw [em]
      refine ⟨⟨by rw [hT_cm]; exact S1, by rw [hC_cm, if_neg kb]; rfl, by rw [hU_cm]; exact S3, by rw [hR_cm]; exact S4⟩, fun i hi => ?_, fun q => ?_⟩
      · obtain ⟨i1, i2, i3, i4, i5, i6, i7, i8⟩ := S5 i hi
        unfold SG
        rw [hW_cm]
        show (_ → _ ∧ _ ∧ va_up (oW o) c (mtW P h o c g) i = 0 ∧ va_up (oS o) c (hT h + k) i = _ ∧ va_up (oF o) c (some (k + lvf P (mtW P h o c g) c)) i = none) ∧ (_ → _ = va_up (oW o) c (mtW P h o c g) i - pS P i * (hT h + k - va_up (oS o) c (hT h + k) i) ∧ _ ≤ va_up (oS o) c (hT h + k) i ∧ va_up (oS o) c (hT h + k) i ≤ _) ∧ (_ → ¬ some g = some i → va_up (oF o) c (some (k + lvf P (mtW P h o c g) c)) i = some (va_up (oS o) c (hT h + k) i - hT h + lvf P (va_up (oW o) c (mtW P h o c g) i) i) ∧ k < va_up (oS o) c (hT h + k) i - hT h + lvf P (va_up (oW o) c (mtW P h o c g) i) i) ∧ (some g = some i → va_up (oF o) c (some (k + lvf P (mtW P h o c g) c)) i = none) ∧ (_ → va_up (oF o) c (some (k + lvf P (mtW P h o c g) c)) i = none) ∧ (_ → ∃ f, va_up (oF o) c (some (k + lvf P (mtW P h o c g) c)) i = some f ∧ f ≤ k + 1) ∧ _ = _ + va_up (oL o) c (oL o c + brg P h g) i ∧ ∀ j, j ≤ k → (_ ↔ ∃ f, va_up (oF o) c (some (k + lvf P (mtW P h o c g) c)) i = some f ∧ f ≤ j)
        by_cases y : i = g
        · subst y
          rw [if_pos rfl, if_neg kb, up_n hgc, up_n hgc, up_n hgc, up_n hgc, eS _ hgc, eD _ hgc]
          refine ⟨fun z => absurd z (by decide), fun _ => ?_, fun _ z => absurd rfl z, fun _ => q5, fun z => absurd z (by decide), fun z => absurd z (by decide), i7, i8⟩
          rw [q2, q3, q4, Nat.zero_sub]
          exact ⟨rfl, Nat.le_refl _, Nat.le_add_right _ _⟩
        · rw [if_neg y]
          by_cases yc : i = c
          · subst yc
            rw [up_s, up_s, up_s, up_s, eDc, eSc, Nat.sub_self, Nat.mul_zero, Nat.sub_zero, Nat.add_sub_cancel_left]
            exact ⟨fun z => absurd (hc1.symm.trans z) (by decide), fun _ => ⟨rfl, by omega, by omega⟩, fun _ _ => ⟨rfl, by omega⟩, fun z => absurd (Option.some.inj z).symm y, fun z => absurd (hc1.symm.trans z) (by decide), fun z => absurd (hc1.symm.trans z) (by decide), rfl, hist (by omega) cF i8⟩
          · rw [up_n yc, up_n yc, up_n yc, up_n yc, eD _ yc, eS _ yc]
            exact ⟨i1, i2, fun a _ => i3 a (by rw [hc]; exact fun z => yc (Option.some.inj z).symm), fun z => absurd (Option.some.inj z).symm y, i5, i6, i7, i8⟩
      · show max (max (oD o) (k + 1)) (k + lvf P (mtW P h o c g) c) ≤ q ↔ (∀ i f, i < pN P → va_up (oF o) c (some (k + lvf P (mtW P h o c g) c)) i = some f → f ≤ q) ∧ _
        rw [Nat.max_le, Nat.max_le, S6 q, hA' c _ q hcn cF, hB' q]
        exact ⟨fun z => ⟨⟨z.1.1.1, z.2⟩, z.1.1.2, z.1.2⟩, fun z => ⟨⟨⟨z.1.1, z.2.1⟩, z.2.2⟩, z.1.2⟩⟩
