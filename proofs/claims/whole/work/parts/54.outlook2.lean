section
variable {M : Mem} {a p g : Nat} {P : PT} {h : HT} {o : OS}
theorem s_meets {B u : Nat} {post : Mem → Prop} (hP : PR M 4 P) (pw : PW P) (hh : HR M p (pN P) h) (ha : 11 ≤ a) (hp : p + 8 ≤ a ∨ a + 6 ≤ p) (O : OR M a (pN P) o) (V : OV P B u o) (hB : B ≤ 1000) (hg : g < pN P) (hu : u ≤ hU h g) (ht : hT h ≤ hU h g) (h40 : hU h g ≤ 40) (hr : hR h g ≤ 9) (k : ∀ M', OR M' a (pN P) (mt P h o g) → Fo a M M' → post M') : P_Outlook_meets M a (nI g) p post := by
  have h7 := pw.1
  have hb := brg_le (h := h) pw hg hr
  obtain ⟨V1, V2, V3⟩ := V
  obtain ⟨O1, O2, O3⟩ := O
  obtain ⟨y1, y2, y3, y4, -⟩ := hh.2.2 g hg
  intro R129 k129
  have key : ∀ (w s l : Nat → Nat) M1, Fo a M M1 → M1 a 7 = oI (oC o) → M1 a 8 = nI (max (oD o) (hU h g - hT h + 1)) → (∀ j, j < pN P → M1 (a + 2) j = nI (w j) ∧ M1 (a + 3) j = nI (s j) ∧ M1 (a + 4) j = fI (oF o j) ∧ M1 (a + 5) j = nI (l j)) → (∀ j, j < pN P → w j < 2 ^ 19) → (mt P h o g = if pK P g = 2 then mO (oC o) w s (va_up (oF o) g (some (hU h g - hT h + 1))) l (max (oD o) (hU h g - hT h + 1)) else match oC o with
      | none => mO (some g) w s (oF o) l (max (oD o) (hU h g - hT h + 1))
      | some c => mO (some g) w s (va_up (oF o) c (some (hU h g - hT h + lvf P (w c) c))) l (max (max (oD o) (hU h g - hT h + 1)) (hU h g - hT h + lvf P (w c) c))) → R129 M1 (nI (hU h g - hT h)) := by
    intro w s l M1 f e7 e8 ej ew he
    have P1 := hP.fo f (by omega)
    apply k129
    unfold B_Outlook_meets_129
    simp (disch := omega) only [cl, nI_1, forall_eq]
    rw [show M1 5 g = nI (pK P g) from (P1.2 g hg).1, e7]
    have q1 := (pw.2 g hg).1
    refine ⟨vin (by omega) (by decide), ?_⟩
    by_cases kb : pK P g = 2
    · rw [if_pos kb] at he
      refine brn_t (by rw [kb]; rfl) ⟨vin (by omega) (by decide), k _ ?_ (f.set (by omega))⟩
      rw [he]
      refine ⟨by rw [ms_k (by omega)]; exact e7, by rw [ms_k (by omega)]; exact e8, fun j hj => ?_⟩
      obtain ⟨j1, j2, j3, j4⟩ := ej j hj
      refine ⟨by rw [ms_k (by omega)]; exact j1, by rw [ms_k (by omega)]; exact j2, ?_, by rw [ms_k (by omega)]; exact j4⟩
      show _ = fI (va_up (oF o) g (some (hU h g - hT h + 1)) j)
      by_cases z : j = g
      · subst z; rw [ms_s, up_s]; rfl
      · rw [ms_j z, up_n z]; exact j3
    · rw [if_neg kb] at he
      refine brn_f (fun z => kb (nI_inj (b := 2) (by omega) (by decide) z)) (s_has_o P1.1 h7 V1 (fun e => ?_) (fun c e => ?_))
      · rw [e] at he
        refine br_t rfl (k _ ?_ (f.set (by omega)))
        rw [he]
        refine ⟨ms_s _ _ _ _, by rw [ms_j (by decide)]; exact e8, fun j hj => ?_⟩
        rw [ms_k (by omega), ms_k (by omega), ms_k (by omega), ms_k (by omega)]
        exact ej j hj
      · rw [e] at he
        simp only at he
        have hc := V1 c e
        refine br_f (by decide) ?_
        rw [e7, e]
        refine s_leaves (g := c) (w := w c) (d := max (oD o) (hU h g - hT h + 1)) P1 pw hc ha (ej c hc).1 e8 (by have := ew c hc; omega) (by omega) (by omega) (k _ ?_ (((f.set (by omega)).set (by omega)).set (by omega)))
        rw [he]
        refine ⟨ms_s _ _ _ _, by rw [ms_j (by decide), ms_s]; rfl, fun j hj => ?_⟩
        obtain ⟨j1, j2, j3, j4⟩ := ej j hj
        simp (disch := omega) only [ms_k]
        refine ⟨j1, j2, ?_, j4⟩
        show _ = fI (va_up (oF o) c (some (hU h g - hT h + lvf P (w c) c)) j)
        by_cases z : j = c
        · subst z; rw [ms_s, up_s]; rfl
        · rw [ms_j z, up_n z]; exact j3
  unfold B_Outlook_meets_i
  simp (disch := omega) only [cl, forall_eq, y2, hh.1]
  rw [pk_sub ht, O2, nI_1, imaxN (by omega) (by omega)]
  refine ⟨vin (by omega) (by decide), ?_⟩
  generalize hM3 : mset M a 8 (nI (max (oD o) (hU h g - hT h + 1))) = M3
  have f3 : Fo a M M3 := by rw [← hM3]; exact Fo.rf.set (by omega)
  have m7 : M3 a 7 = oI (oC o) := by rw [← hM3, ms_j (by decide)]; exact O1
  have m8 : M3 a 8 = nI (max (oD o) (hU h g - hT h + 1)) := by rw [← hM3, ms_s]
  have mj : ∀ j, j < pN P → M3 (a + 2) j = nI (oW o j) ∧ M3 (a + 3) j = nI (oS o j) ∧ M3 (a + 4) j = fI (oF o j) ∧ M3 (a + 5) j = nI (oL o j) := fun j hj => by
    rw [← hM3, ms_k (by omega), ms_k (by omega), ms_k (by omega), ms_k (by omega)]; exact O3 j hj
  have P3 := hP.fo f3 (by omega)
  have h3 := hh.fo f3 hp
  rw [m7]
  refine s_has_o P3.1 h7 V1 (fun e => br_t rfl (key (oW o) (oS o) (oL o) M3 f3 m7 m8 mj (fun j hj => by have := (V2 j hj).1; omega) ?_)) (fun c e => br_f (by decide) (s_brings P3 pw h3 hg ?_))
  · unfold mt; rw [e]
  · have hc := V1 c e
    obtain ⟨c1, c2, c3, c4⟩ := mj c hc
    obtain ⟨w1, w2, w3⟩ := V2 c hc
    have e9 : M3 9 c = nI (pS P c) := (P3.2 c hc).2.2.2
    obtain ⟨-, -, -, s1, s9⟩ := pw.2 c hc
    rw [e] at m7
    have m7 : M3 a 7 = nI c := m7
    have hmul : pS P c * (hU h g - oS o c) ≤ 9 * 40 := Nat.mul_le_mul s9 (by omega)
    have ev : imax 0 (nI (oW o c) - nI (pS P c) * (nI (hU h g) - nI (oS o c))) + nI (brg P h g) = nI (mtW P h o c g) := by
      rw [pk_sub (by omega), pk_mul, imax0 (by omega) (by omega), nI_add]; rfl
    simp (disch := omega) only [forall_eq, m7, cl, ms_k, e9, c1, c2, c4, ev, nI_add]
    refine ⟨vin (by omega) (by decide), vin (by omega) (by decide), vin (by omega) (by decide), vin (by omega) (by decide), vin (by omega) (by decide), vin (by omega) (by decide), vin (by omega) (by decide), ?_⟩
    have mw : mtW P h o c g ≤ B + 69 := by unfold mtW; omega
    refine key (va_up (oW o) c (mtW P h o c g)) (va_up (oS o) c (hU h g)) (va_up (oL o) c (oL o c + brg P h g)) _ (((f3.set (by omega)).set (by omega)).set (by omega)) ?_ ?_ (fun j hj => ?_) (fun j hj => ?_) ?_
    · simp (disch := omega) only [ms_k]; rw [m7, e]; rfl
    · simp (disch := omega) only [ms_k]; exact m8
    · obtain ⟨j1, j2, j3, j4⟩ := mj j hj
      by_cases z : j = c
      · subst z
        simp (disch := omega) only [ms_k, ms_s, up_s]
        exact ⟨trivial, trivial, j3, trivial⟩
      · simp (disch := omega) only [ms_k, ms_j z, up_n z]
        exact ⟨j1, j2, j3, j4⟩
    · by_cases z : j = c
      · subst z; rw [up_s]; omega
      · rw [up_n z]; have := (V2 j hj).1; omega
    · unfold mt
      rw [e]
      simp only
      rw [up_s]
theorem s_reckon {l : List Nat} {post : Mem → Prop} (hP : PR M 4 P) (pw : PW P) (hh : HR M p (pN P) h) (v : GV P h) (ht : hT h < 2 ^ 20) (ha : 11 ≤ a) (hp : p + 8 ≤ a ∨ a + 6 ≤ p) (L : LN P h l) (e6 : M a 6 = nI l.length) (el : ∀ i x, l[i]? = some x → M (a + 1) i = nI x) (l7 : l.length ≤ 7) (k : ∀ M', OR M' a (pN P) (oA P h l) → Fo a M M' → post M') : P_Outlook_reckon M a p post := by
  have h7 := pw.1
  intro R7 k7
  have go : ∀ (l2 l1 : List Nat) (u : Nat) M1, l = l1 ++ l2 → OR M1 a (pN P) (l1.foldl (mt P h) (oB P h)) → OV P (500 + 69 * l1.length) u (l1.foldl (mt P h) (oB P h)) → (∀ x, x ∈ l2 → u ≤ hU h x) → Fo a M M1 → R7 M1 (nI l1.length) := by
    intro l2
    induction l2 with
    | nil =>
      intro l1 u M1 e O V ux f
      rw [List.append_nil] at e
      subst e
      apply k7
      unfold B_Outlook_reckon_7
      rw [f.2.2, e6]
      exact br7_t l7 (k M1 O f) (k M1 O f)
    | cons x l2 ih =>
      intro l1 u M1 e O V ux f
      have hlen : l.length = l1.length + (l2.length + 1) := by rw [e, List.length_append, List.length_cons]
      have hx : x ∈ l := by rw [e]; exact List.mem_append_right _ (List.mem_cons_self ..)
      obtain ⟨x1, x2⟩ := (ln_mem L x).mp hx
      obtain ⟨v1, v2, v3, v4, v5, v6, v7, v8⟩ := v.2 x x1
      have v9 := (v7 x2).1
      have gx : M1 (a + 1) l1.length = nI x := by
        rw [f.2.1]
        refine el _ _ ?_
        rw [e, List.getElem?_append_right (Nat.le_refl _), Nat.sub_self]; rfl
      have P1 := hP.fo f (by omega)
      apply k7
      unfold B_Outlook_reckon_7
      simp (disch := omega) only [cl, forall_eq, gx, nI_1]
      rw [f.2.2, e6]
      refine br7_f (by omega) l7 ⟨vin (by omega) (by decide), s_has_t P1.1 h7 x1 (br_f (by decide) ?_)⟩
      have hb := brg_le (h := h) pw x1 v3
      have Lp := L.1
      rw [e, List.pairwise_append] at Lp
      refine s_meets P1 pw (hh.fo f hp) ha hp O V (by omega) x1 (ux x (List.mem_cons_self ..)) v9 v2 v3 (fun M2 O2 f2 => ?_)
      have := ih (l1 ++ [x]) (hU h x) M2 (by rw [e, List.append_assoc]; rfl) (by rw [List.foldl_append]; exact O2) ?_ (fun y hy => (List.pairwise_cons.mp Lp.2.1).1 y hy) (f.tr f2)
      · rw [List.length_append] at this; exact this
      · rw [List.foldl_append, List.length_append]
        have := ov_mt pw V x1 (ux x (List.mem_cons_self ..)) hb v2
        rw [show 500 + 69 * (l1.length + [x].length) = 500 + 69 * l1.length + 69 by rw [show [x].length = 1 from rfl, Nat.mul_add]; omega]
        exact this
  unfold B_Outlook_reckon_i
  simp only [forall_eq]
  refine s_begin hP pw hh v ht ha hp (fun M1 O1 f1 => go l [] (hT h) M1 rfl O1 ⟨fun c e => (v.1 c e).1, fun g hg => ⟨?_, Nat.zero_le _, Nat.le_refl _⟩, ?_⟩ (fun x hx => ?_) f1)
  · have := (v.2 g hg).2.2.2.1
    have := nb_le h (pN P)
    show hD h g ≤ 500 + 69 * 0
    omega
  · show bgD P h (pN P) ≤ 500 + 69 * 0 + 42
    refine (bgD_le P h _ _).mpr (fun g hg _ _ => ?_)
    have hl := lvf_up (w := hD h g) (pw.2 g hg).2.2.2.1
    have := (v.2 g hg).2.2.2.1
    have := nb_le h (pN P)
    omega
  · obtain ⟨x1, x2⟩ := (ln_mem L x).mp hx
    exact ((v.2 x x1).2.2.2.2.2.2.1 x2).1
end
