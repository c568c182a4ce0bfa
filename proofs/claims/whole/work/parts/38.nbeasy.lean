theorem rx_text {s : ST} {M M' : Mem} {x : List Nat} (R : RX s M) (e : ∀ q, 3 ≤ q → M' q = M q) (h : TX M' x) : RX (mST (xP s) (xH s) (xU s) (xK s) x (xE s)) M' := by
  obtain ⟨R1, R2, R3, R4, R5, R7, R8, R9⟩ := R
  refine ⟨R1.of (fun q _ _ => e q (by omega)), R2.of (fun q _ _ => e q (by omega)), R3.of (fun q _ _ => e q (by omega)), R4.of (fun q _ _ => e q (by omega)), h, ?_, ?_, ?_⟩
  · unfold SN; rw [e 142 (by decide), e 143 (by decide), e 144 (by decide)]; exact R7
  · unfold DOK; rw [e 124 (by decide), e 127 (by decide)]; exact R8
  · unfold SOK; rw [e 142 (by decide), e 146 (by decide)]; exact R9
theorem rx_seen {s : ST} {M M' : Mem} {x : List (Nat × Nat)} (R : RX s M) (e : ∀ q, q < 142 → M' q = M q) (h : SN M' x) (h2 : SOK (xP s) x M') : RX (mST (xP s) (xH s) (xU s) (xK s) (xX s) x) M' := by
  obtain ⟨R1, R2, R3, R4, R5, R7, R8, R9⟩ := R
  refine ⟨R1.of (fun q _ _ => e q (by omega)), R2.of (fun q _ _ => e q (by omega)), R3.of (fun q _ _ => e q (by omega)), R4.of (fun q _ _ => e q (by omega)), ?_, h, ?_, h2⟩
  · unfold TX; rw [e 1 (by decide), e 2 (by decide)]; exact R5
  · unfold DOK; rw [e 124 (by decide), e 127 (by decide)]; exact R8
theorem rx_house {s : ST} {M M' : Mem} {h : HT} (R : RX s M) (st : M 124 10 = 1) (hh : HR M' 18 (pN (xP s)) h) (f : Fr 18 M M') : RX (mST (xP s) h (xU s) (xK s) (xX s) (xE s)) M' := by
  obtain ⟨R1, R2, R3, R4, R5, R7, R8, R9⟩ := R
  refine ⟨R1.of (fun q _ _ => f q (by omega)), hh, R3.of (fun q _ _ => f q (by omega)), R4.of (fun q _ _ => f q (by omega)), ?_, ?_, Or.inl (by rw [f 124 (by decide)]; exact st), ?_⟩
  · unfold TX; rw [f 1 (by decide), f 2 (by decide)]; exact R5
  · unfold SN; rw [f 142 (by decide), f 143 (by decide), f 144 (by decide)]; exact R7
  · unfold SOK; rw [f 142 (by decide), f 146 (by decide)]; exact R9
theorem hH40 : ∀ j, j < 8 → Hh (40 + 2 + 8 * j) := by unfold Hh; decide +kernel
theorem hH106 : ∀ j, j < 2 → Hh (106 + 2 + 8 * j) := by unfold Hh; decide +kernel
section
variable {T : Nat} {s : ST} {M : Mem}
theorem x_stale {post : Mem → Prop} (R : RX s M) (k : ∀ M', RX s M' → M' 124 10 = 1 → (∀ q, q ≠ 124 → M' q = M q) → post M') : P_Dealing_goStale M post := by
  unfold P_Dealing_goStale B_Dealing_goStale_i
  simp only [forall_eq]
  refine k _ ?_ (ms_s _ _ _ _) (fun q hq => mset_ne hq)
  obtain ⟨R1, R2, R3, R4, R5, R7, R8, R9⟩ := R
  refine ⟨R1.of (fun q _ _ => mset_ne (by omega)), R2.of (fun q _ _ => mset_ne (by omega)), R3.of (fun q _ _ => mset_ne (by omega)), R4.of (fun q _ _ => mset_ne (by omega)), ?_, ?_, Or.inl (ms_s _ _ _ _), ?_⟩
  · unfold TX; rw [mset_ne (by decide), mset_ne (by decide)]; exact R5
  · unfold SN; rw [mset_ne (by decide), mset_ne (by decide), mset_ne (by decide)]; exact R7
  · unfold SOK; rw [mset_ne (by decide), mset_ne (by decide)]; exact R9
theorem x_begin {post : Mem → Prop} (I : IX T s) (R : RX s M) (k : ∀ M', RX (act s (xH s)) M' → M' 124 10 = 1 → (∀ q, (q < 40 ∨ 106 ≤ q) → q ≠ 124 → M' q = M q) → post M') : P_NB_beginAct M post := by
  have h7 := I.1.1
  obtain ⟨R1, R2, R3, R4, R5, R7, R8, R9⟩ := id R
  unfold P_NB_beginAct B_NB_beginAct_i
  refine s_put R3 (by decide) (by decide) h7 hH40 R2 (Or.inl (by decide)) (fun M1 q f => ?_)
  have R' : RX (act s (xH s)) M1 := by
    refine ⟨R1.of (fun q _ _ => f q (by omega)), R2.of (fun q _ _ => f q (by omega)), q, R4.of (fun q _ _ => f q (by omega)), ?_, ?_, ?_, ?_⟩
    · unfold TX; rw [f 1 (by decide), f 2 (by decide)]; exact R5
    · unfold SN; rw [f 142 (by decide), f 143 (by decide), f 144 (by decide)]; exact R7
    · unfold DOK; rw [f 124 (by decide), f 127 (by decide)]; exact R8
    · unfold SOK; rw [f 142 (by decide), f 146 (by decide)]; exact R9
  refine x_stale R' (fun M2 R2 st f2 => k M2 R2 st (fun q2 g1 g2 => ?_))
  rw [f2 q2 g2]
  exact f q2 (by omega)
theorem x_wipe {post : Int32 → Mem → Prop} (R : RX s M) (k : ∀ M', RX (fWipe s).2 M' → post (fWipe s).1 M') : P_NB_wipe M post := by
  unfold P_NB_wipe B_NB_wipe_i P_Script_clear B_Script_clear_i
  simp only [forall_eq]
  rw [R.2.2.2.2.1.1]
  refine k _ (rx_text R (fun q hq => mset_ne (by omega)) ⟨ms_s _ _ _ _, fun i c hc => by cases hc⟩)
theorem x_guest {p q : Int32} {post : Int32 → Mem → Prop} (I : IX T s) (R : RX s M) (k : ∀ M', RX (fGuest s p q).2 M' → post (fGuest s p q).1 M') : P_NB_guest M p q post := by
  have h7 := I.1.1
  obtain ⟨R1, -⟩ := id R
  unfold P_NB_guest B_NB_guest_i
  refine s_has R1.1 h7 (fun g hg e => ?_) (fun e => brn_t rfl ?_)
  · subst e
    obtain ⟨e1, e2, e3, e4⟩ := R1.2 g hg
    unfold fGuest at k
    rw [gi_some hg (by omega)] at k
    simp only at k
    simp (disch := omega) only [cl]
    rw [e1, e2, e3, e4]
    refine brn_f (by decide) ⟨fun c => ⟨vin (by omega) (by decide), ?_⟩, fun c => ⟨vin (by omega) (by decide), ?_⟩, fun c => ⟨vin (by omega) (by decide), ?_⟩, fun c => ⟨vin (by omega) (by decide), ?_⟩, fun c0 c1 c2 c3 => ?_⟩
    · subst c; exact k M R
    · subst c; exact k M R
    · subst c; exact k M R
    · subst c; exact k M R
    · rw [if_neg c0, if_neg c1, if_neg c2, if_neg c3] at k; exact k M R
  · unfold fGuest at k
    rw [gi_none (by omega) e] at k
    exact k M R
theorem x_state {p q : Int32} {post : Int32 → Mem → Prop} (I : IX T s) (R : RX s M) (k : ∀ M', RX (fState s p q).2 M' → post (fState s p q).1 M') : P_NB_state M p q post := by
  have h7 := I.1.1
  obtain ⟨R1, R2, -⟩ := id R
  unfold P_NB_state B_NB_state_i
  refine s_has R1.1 h7 (fun g hg e => ?_) (fun e => brn_t rfl ?_)
  · subst e
    obtain ⟨e1, e2, e3, e4, e5, e6, e7⟩ := R2.2.2 g hg
    unfold fState at k
    rw [gi_some hg (by omega)] at k
    simp only at k
    simp (disch := omega) only [cl]
    rw [e1, e2, e3, e4, e5, e6, e7]
    refine brn_f (by decide) ⟨fun c => ⟨vin (by omega) (by decide), ?_⟩, fun c => ⟨vin (by omega) (by decide), ?_⟩, fun c => ⟨vin (by omega) (by decide), ?_⟩, fun c => ⟨vin (by omega) (by decide), ?_⟩, fun c => ⟨vin (by omega) (by decide), ?_⟩, fun c => ⟨vin (by omega) (by decide), ?_⟩, fun c => ⟨vin (by omega) (by decide), ?_⟩, fun c0 c1 c2 c3 c4 c5 c6 => ?_⟩
    · subst c; exact k M R
    · subst c; exact k M R
    · subst c; exact k M R
    · subst c; exact k M R
    · subst c; exact k M R
    · subst c; exact k M R
    · subst c; exact k M R
    · rw [if_neg c0, if_neg c1, if_neg c2, if_neg c3, if_neg c4, if_neg c5, if_neg c6] at k; exact k M R
  · unfold fState at k
    rw [gi_none (by omega) e] at k
    exact k M R
theorem gv_itp {P : PT} {h : HT} (v : GV P h) (pw : PW P) : ∀ k, GV P (itp P k h)
  | 0 => v
  | k + 1 => gv_pss (gv_itp v pw k) pw
theorem hT_itp (P : PT) (h : HT) : ∀ k, hT (itp P k h) = hT h + k
  | 0 => rfl
  | k + 1 => by show hT (pss P (itp P k h)) = _; rw [hT_pss, hT_itp P h k]; omega
theorem x_pass {p : Int32} {post : Int32 → Mem → Prop} (I : IX T s) (R : RX s M) (k : ∀ M', RX (fPass s p).2 M' → post (fPass s p).1 M') : P_NB_pass M p post := by
  have h7 := I.1.1
  have v := I.2.2.1.1
  have ht := I.2.2.1.2
  have hT20 : T < 2 ^ 20 := I.2.2.2.2.2.2.2.2.2.2.2
  intro R19 k19
  unfold B_NB_pass_i
  unfold fPass at k
  rcases rg_cases 1 24 (by decide) p with ⟨e, c⟩ | ⟨c, e, c1, c2, rfl⟩
  · rw [e] at k
    have k := k M R
    refine br_c (fun _ => k) (fun d => br_c (fun d2 => ?_) (fun _ => k))
    rw [i_lt] at d
    rw [i_le] at d2
    have d : ¬ p.toInt < 1 := d
    have d2 : p.toInt ≤ 24 := d2
    omega
  · rw [e] at k
    simp only at k
    refine br_f (nI_nlt (a := c) (b := 1) c1 (by omega)) (br_t (nI_le (b := 24) c2 (by decide)) ?_)
    refine x_begin I R (fun M1 Ra st f => ?_)
    simp only [forall_eq]
    have L : ∀ i, i ≤ c → ∀ M2, HR M2 18 (pN (xP s)) (itp (xP s) i (xH s)) → Fr 18 M1 M2 → R19 M2 (nI i) := by
      refine up_loop (fun i hi ih M2 q f2 => ?_) (fun M2 q f2 => ?_)
      · apply k19
        unfold B_NB_pass_19
        refine br_f (nI_ge hi (by omega)) ?_
        have hP2 : PR M2 4 (xP s) := Ra.1.of (fun q _ _ => f2 q (by omega))
        refine s_hour hP2 I.1 q (gv_itp v I.1 i) (by decide) (by rw [hT_itp]; omega) (fun M3 q3 f3 => ?_)
        simp only [forall_eq, nI_1]
        exact ih M3 q3 (f2.tr f3)
      · apply k19
        unfold B_NB_pass_19
        refine br_t (nI_le (Nat.le_refl _) (by omega)) ?_
        rw [q.1]
        exact k M2 (rx_house (s := act s (xH s)) Ra st q f2)
    exact L 0 (Nat.zero_le _) M1 Ra.2.1 Fr.rf
theorem hw31 (I : IX T s) : ∀ g, g < pN (xP s) → hW (xH s) g < 2 ^ 31 := fun g hg => by have := (I.2.2.1.1.2 g hg).1; omega
theorem x_book {p q : Int32} {post : Int32 → Mem → Prop} (I : IX T s) (R : RX s M) (k : ∀ M', RX (fBook s p q).2 M' → post (fBook s p q).1 M') : P_NB_book M p q post := by
  have h7 := I.1.1
  have ht := I.2.2.1.2
  have hT20 : T < 2 ^ 20 := I.2.2.2.2.2.2.2.2.2.2.2
  obtain ⟨R1, R2, -⟩ := id R
  unfold P_NB_book B_NB_book_i
  refine s_has R1.1 h7 (fun g hg e => ?_) (fun e => br_t rfl ?_)
  · subst e
    unfold fBook at k
    rw [gi_some hg (by omega)] at k
    simp only at k
    refine br_f (by decide) ?_
    rcases rg_cases 0 40 (by decide) q with ⟨e, c⟩ | ⟨x, e, c1, c2, rfl⟩
    · rw [e] at k
      have k := k M R
      refine br_c (fun _ => k) (fun d => br_c (fun d2 => ?_) (fun _ => k))
      rw [i_lt] at d
      rw [i_le] at d2
      have d : ¬ q.toInt < 0 := d
      have d2 : q.toInt ≤ 40 := d2
      omega
    · rw [e] at k
      simp only at k
      refine br_f (nI_pos (by omega)) (br_t (nI_le (b := 40) c2 (by decide)) ?_)
      refine s_booked_t R1.1 h7 R2 (hw31 I) hg (fun c => br_f (by decide) ?_) (fun c => br_t rfl ?_)
      · rw [R2.1]
        by_cases d : hT (xH s) ≤ x
        · simp only [if_pos (And.intro c d)] at k
          refine br_t (nI_le d (by omega)) (x_begin I R (fun M1 Ra st f => ?_))
          simp (disch := omega) only [cl, forall_eq]
          have Rh := Ra.2.1
          rw [show M1 20 g = nI (hU (xH s) g) from (Rh.2.2 g hg).2.1]
          refine ⟨vin (by omega) (by decide), s_rebook (h := xH s) (n := pN (xP s)) Ra.1.1 h7 Rh (hw31 I) (show hT (xH s) < 2 ^ 31 by omega) (by omega) hg (fun M2 q2 f2 => k M2 ?_)⟩
          have q2 : HR M2 18 (pN (xP s)) (if hW (xH s) g = 0 ∧ hT (xH s) ≤ x then sU (xH s) g x else xH s) := q2
          rw [if_pos (And.intro c d)] at q2
          exact rx_house (s := act s (xH s)) Ra st q2 f2
        · simp only [if_neg (fun z : hW (xH s) g = 0 ∧ hT (xH s) ≤ x => d z.2)] at k
          exact br_f (nI_ge (by omega) (by omega)) (k M R)
      · simp only [if_neg (fun z : hW (xH s) g = 0 ∧ hT (xH s) ≤ x => c z.1)] at k
        exact k M R
  · unfold fBook at k
    rw [gi_none (by omega) e] at k
    exact k M R
theorem x_call {p : Int32} {post : Int32 → Mem → Prop} (I : IX T s) (R : RX s M) (k : ∀ M', RX (fCall s p).2 M' → post (fCall s p).1 M') : P_NB_call M p post := by
  have h7 := I.1.1
  obtain ⟨R1, R2, -⟩ := id R
  unfold P_NB_call B_NB_call_i
  refine s_has R1.1 h7 (fun g hg e => brn_f (by decide) ?_) (fun e => brn_t rfl ?_)
  · subst e
    unfold fCall at k
    rw [gi_some hg (by omega)] at k
    simp only at k
    refine s_booked_t R1.1 h7 R2 (hw31 I) hg (fun c => brn_f (by decide) ?_) (fun c => brn_t rfl ?_)
    · simp only [if_pos c] at k
      refine x_begin I R (fun M1 Ra st f => ?_)
      refine s_callOff (h := xH s) (n := pN (xP s)) Ra.1.1 h7 Ra.2.1 (hw31 I) hg (fun M2 q2 f2 => ?_)
      have q2 : HR M2 18 (pN (xP s)) (if hW (xH s) g = 0 then sW (xH s) g 3 else xH s) := q2
      rw [if_pos c] at q2
      have hP2 : PR M2 4 (xP s) := Ra.1.of (fun q _ _ => f2 q (by omega))
      refine s_many (w := 0) hP2.1 h7 q2 (fun j hj => ?_) (by decide) (k M2 (rx_house (s := act s (xH s)) Ra st q2 f2))
      show va_up (hW (xH s)) g 3 j < _
      unfold va_up
      split
      · decide
      · exact hw31 I j hj
    · simp only [if_neg c] at k
      exact k M R
  · unfold fCall at k
    rw [gi_none (by omega) e] at k
    exact k M R
theorem x_change {p q : Int32} {post : Int32 → Mem → Prop} (I : IX T s) (R : RX s M) (k : ∀ M', RX (fChange s p q).2 M' → post (fChange s p q).1 M') : P_NB_change M p q post := by
  have h7 := I.1.1
  obtain ⟨R1, R2, -⟩ := id R
  unfold P_NB_change B_NB_change_i
  refine s_has R1.1 h7 (fun g hg e => br_f (by decide) ?_) (fun e => br_t rfl ?_)
  · subst e
    refine s_has R1.1 h7 (fun j hj e => br_f (by decide) ?_) (fun e => br_t rfl ?_)
    · subst e
      unfold fChange at k
      rw [gi_some hg (by omega), gi_some hj (by omega)] at k
      simp only at k
      by_cases z : g = j
      · simp only [if_pos z] at k
        exact brn_t (by rw [z]) (k M R)
      · simp only [if_neg z] at k
        refine brn_f (fun y => z (nI_inj (by omega) (by omega) y)) ?_
        refine s_booked_t R1.1 h7 R2 (hw31 I) hg (fun c => br_f (by decide) ?_) (fun c => br_t rfl ?_)
        · refine s_booked_t R1.1 h7 R2 (hw31 I) hj (fun d => brn_f (by decide) ?_) (fun d => brn_t rfl ?_)
          · simp only [if_pos (And.intro c d)] at k
            refine x_begin I R (fun M1 Ra st f => ?_)
            refine s_swap (h := xH s) (n := pN (xP s)) Ra.1.1 h7 Ra.2.1 (hw31 I) hg hj (fun M2 q2 f2 => ?_)
            have q2 : HR M2 18 (pN (xP s)) (if hW (xH s) g = 0 ∧ hW (xH s) j = 0 then swp (xH s) g j else xH s) := q2
            rw [if_pos (And.intro c d)] at q2
            simp (disch := omega) only [cl]
            rw [show M2 21 g = nI (hR (swp (xH s) g j) g) from (q2.2.2 g hg).2.2.1]
            exact ⟨vin (by omega) (by decide), k M2 (rx_house (s := act s (xH s)) Ra st q2 f2)⟩
          · simp only [if_neg (fun z : hW (xH s) g = 0 ∧ hW (xH s) j = 0 => d z.2)] at k
            exact k M R
        · simp only [if_neg (fun z : hW (xH s) g = 0 ∧ hW (xH s) j = 0 => c z.1)] at k
          exact k M R
    · unfold fChange at k
      rw [gi_some hg (by omega), gi_none (by omega) e] at k
      exact k M R
  · unfold fChange at k
    rw [gi_none (by omega) e] at k
    exact k M R
theorem x_undo {post : Int32 → Mem → Prop} (I : IX T s) (R : RX s M) (k : ∀ M', RX (fUndo s).2 M' → post (fUndo s).1 M') : P_NB_undo M post := by
  have h7 := I.1.1
  obtain ⟨R1, R2, R3, R4, R5, R7, R8, R9⟩ := id R
  unfold P_NB_undo B_NB_undo_i
  refine s_take R3 (by decide) (by decide) h7 hH40 (Or.inl (by decide)) (fun e => brn_t rfl ?_) (fun l0 h e M1 q1 q2 f1 f2 => brn_f (by decide) ?_)
  · unfold fUndo at k
    rw [e] at k
    exact k M R
  · unfold fUndo at k
    rw [e, List.getLast?_append, List.dropLast_concat] at k
    simp only [List.getLast?_singleton, Option.some_or] at k
    unfold P_Dealing_goStale B_Dealing_goStale_i
    simp only [forall_eq]
    rw [ms_k (by decide), q1.2.1]
    refine k _ ⟨R1.of (fun q _ _ => ?_), q2.of (fun q _ _ => mset_ne (by omega)), q1.of (fun q _ _ => mset_ne (by omega)), R4.of (fun q _ _ => ?_), ?_, ?_, Or.inl (ms_s _ _ _ _), ?_⟩
    · rw [mset_ne (by omega)]; exact f1 q (by omega) (by omega)
    · rw [mset_ne (by omega)]; exact f1 q (by omega) (by omega)
    · unfold TX; rw [mset_ne (by decide), mset_ne (by decide), f1 1 (by decide) (by decide), f1 2 (by decide) (by decide)]; exact R5
    · unfold SN; rw [mset_ne (by decide), mset_ne (by decide), mset_ne (by decide), f1 142 (by decide) (by decide), f1 143 (by decide) (by decide), f1 144 (by decide) (by decide)]; exact R7
    · unfold SOK; rw [mset_ne (by decide), mset_ne (by decide), f1 142 (by decide) (by decide), f1 146 (by decide) (by decide)]; exact R9
theorem x_see {p q : Int32} {post : Int32 → Mem → Prop} (I : IX T s) (R : RX s M) (k : ∀ M', RX (fSee s p q).2 M' → post (fSee s p q).1 M') : P_NB_see M p q post := by
  have h7 := I.1.1
  have hl : (xE s).length ≤ 7 := I.2.2.2.2.2.2.2.2.2.1
  obtain ⟨R1, R2, R3, R4, R5, R7, R8, R9⟩ := id R
  unfold P_NB_see B_NB_see_i
  refine s_has R1.1 h7 (fun g hg e => br_f (by decide) ?_) (fun e => br_t rfl ?_)
  · subst e
    unfold fSee at k
    rw [gi_some hg (by omega)] at k
    simp only at k
    rcases rg_cases 0 200 (by decide) q with ⟨e, c⟩ | ⟨x, e, c1, c2, rfl⟩
    · rw [e] at k
      have k := k M R
      refine br_c (fun _ => k) (fun d => br_c (fun d2 => ?_) (fun _ => k))
      rw [i_lt] at d
      rw [i_le] at d2
      have d : ¬ q.toInt < 0 := d
      have d2 : q.toInt ≤ 200 := d2
      omega
    · rw [e] at k
      simp only at k
      refine br_f (nI_pos (by omega)) (br_t (nI_le (b := 200) c2 (by decide)) ?_)
      unfold P_Sightings_add B_Sightings_add_i
      rw [R7.1]
      refine br_f (nI_pos (by omega)) ?_
      by_cases z : (xE s).length = 7
      · simp only [if_pos z] at k
        exact br_f (nI_nlt (a := (xE s).length) (b := 7) (by omega) (by omega)) (br_t rfl (k M R))
      · simp only [if_neg z] at k
        refine br_t (nI_lt (b := 7) (by omega) (by decide)) ⟨vin (by omega) (by decide), ?_⟩
        simp (disch := omega) only [cl, forall_eq, ms_k, R7.1, nI_1]
        refine ⟨vin (by omega) (by decide), br_f (by decide) ?_⟩
        rw [ms_j (by decide), ms_s]
        refine k _ (rx_seen R (fun q hq => ?_) ⟨?_, fun i y hy => ?_⟩ (Or.inl (ms_s _ _ _ _)))
        · rw [mset_ne (by omega), mset_ne (by omega), mset_ne (by omega), mset_ne (by omega)]
        · rw [ms_j (by decide), ms_s, List.length_append]; rfl
        · by_cases zz : i = (xE s).length
          · subst zz
            rw [List.getElem?_append_right (Nat.le_refl _), Nat.sub_self] at hy
            cases hy
            refine ⟨?_, ?_⟩
            · rw [ms_k (by decide), ms_k (by decide), ms_k (by decide), ms_s]
            · rw [ms_k (by decide), ms_k (by decide), ms_s]
          · have hi : i < (xE s ++ [(g, x)]).length := (List.getElem?_eq_some_iff.mp hy).1
            rw [List.length_append] at hi
            have hi : i < (xE s).length + 1 := hi
            rw [List.getElem?_append_left (by omega)] at hy
            have y0 := R7.2 i y hy
            refine ⟨?_, ?_⟩
            · rw [ms_k (by decide), ms_k (by decide), ms_k (by decide), ms_j zz]; exact y0.1
            · rw [ms_k (by decide), ms_k (by decide), ms_j zz, ms_k (by decide)]; exact y0.2
  · unfold fSee at k
    rw [gi_none (by omega) e] at k
    exact k M R
theorem x_forget {post : Int32 → Mem → Prop} (R : RX s M) (k : ∀ M', RX (fForget s).2 M' → post (fForget s).1 M') : P_NB_forget M post := by
  unfold P_NB_forget B_NB_forget_i P_Sightings_clear B_Sightings_clear_i
  simp only [forall_eq]
  rw [R.2.2.2.2.2.1.1]
  refine k _ (rx_seen R (fun q hq => ?_) ⟨?_, fun i y hy => by cases hy⟩ (Or.inl (ms_s _ _ _ _)))
  · rw [mset_ne (by omega), mset_ne (by omega)]
  · rw [ms_j (by decide), ms_s]; rfl
theorem x_keep {post : Int32 → Mem → Prop} (I : IX T s) (R : RX s M) (k : ∀ M', RX (fKeep s).2 M' → post (fKeep s).1 M') : P_NB_keep M post := by
  have h7 := I.1.1
  obtain ⟨R1, R2, R3, R4, R5, R7, R8, R9⟩ := id R
  unfold P_NB_keep B_NB_keep_i
  refine s_full R4 (by decide) (fun c => ⟨fun z => absurd z (by decide), fun _ => ?_⟩) (fun c => br_t rfl ?_)
  · unfold fKeep at k
    rw [if_pos c] at k
    exact k M R
  · unfold fKeep at k
    rw [if_neg (by omega)] at k
    refine s_put R4 (by decide) (by decide) h7 hH106 R2 (Or.inl (by decide)) (fun M1 q f => ?_)
    unfold put at q
    rw [if_neg (by omega)] at q
    rw [q.2.1, List.length_append]
    refine k M1 ⟨R1.of (fun q _ _ => f q (by omega)), R2.of (fun q _ _ => f q (by omega)), R3.of (fun q _ _ => f q (by omega)), q, ?_, ?_, ?_, ?_⟩
    · unfold TX; rw [f 1 (by decide), f 2 (by decide)]; exact R5
    · unfold SN; rw [f 142 (by decide), f 143 (by decide), f 144 (by decide)]; exact R7
    · unfold DOK; rw [f 124 (by decide), f 127 (by decide)]; exact R8
    · unfold SOK; rw [f 142 (by decide), f 146 (by decide)]; exact R9
theorem x_back {post : Int32 → Mem → Prop} (I : IX T s) (R : RX s M) (k : ∀ M', RX (fBack s).2 M' → post (fBack s).1 M') : P_NB_back M post := by
  have h7 := I.1.1
  obtain ⟨R1, R2, R3, R4, R5, R7, R8, R9⟩ := id R
  unfold P_NB_back B_NB_back_i
  refine s_take R4 (by decide) (by decide) h7 hH106 (Or.inl (by decide)) (fun e => brn_t rfl ?_) (fun l0 h e M1 q1 q2 f1 f2 => brn_f (by decide) ?_)
  · unfold fBack at k
    rw [e] at k
    exact k M R
  · unfold fBack at k
    rw [e, List.getLast?_append, List.dropLast_concat] at k
    simp only [List.getLast?_singleton, Option.some_or] at k
    unfold P_Shelf_clear B_Shelf_clear_i P_Dealing_goStale B_Dealing_goStale_i
    simp only [forall_eq]
    rw [ms_k (by decide), ms_k (by decide), q1.2.1]
    refine k _ ⟨R1.of (fun q _ _ => ?_), q2.of (fun q _ _ => ?_), ?_, q1.of (fun q _ _ => ?_), ?_, ?_, Or.inl (ms_s _ _ _ _), ?_⟩
    · rw [mset_ne (by omega), mset_ne (by omega)]; exact f1 q (by omega) (by omega)
    · rw [mset_ne (by omega), mset_ne (by omega)]
    · obtain ⟨-, -, ad, a3, a4, a5, -⟩ := R3
      refine ⟨Nat.zero_le _, by rw [ms_k (by decide), ms_s]; rfl, ad, fun i hi => ?_, a4, a5, fun i h hh => by cases hh⟩
      rw [ms_k (by decide), ms_k (by decide), f1 _ (by decide) (by decide)]; exact a3 i hi
    · rw [mset_ne (by omega), mset_ne (by omega)]
    · unfold TX; rw [mset_ne (by decide), mset_ne (by decide), mset_ne (by decide), mset_ne (by decide), f1 1 (by decide) (by decide), f1 2 (by decide) (by decide)]; exact R5
    · unfold SN; rw [mset_ne (by decide), mset_ne (by decide), mset_ne (by decide), mset_ne (by decide), mset_ne (by decide), mset_ne (by decide), f1 142 (by decide) (by decide), f1 143 (by decide) (by decide), f1 144 (by decide) (by decide)]; exact R7
    · unfold SOK; rw [mset_ne (by decide), mset_ne (by decide), mset_ne (by decide), mset_ne (by decide), f1 142 (by decide) (by decide), f1 146 (by decide) (by decide)]; exact R9
theorem x_count {p : Int32} {post : Int32 → Mem → Prop} (I : IX T s) (R : RX s M) (k : ∀ M', RX (fCount s p).2 M' → post (fCount s p).1 M') : P_NB_count M p post := by
  have h7 := I.1.1
  obtain ⟨R1, R2, R3, R4, R5, R7, R8, R9⟩ := id R
  have k := k M R
  unfold P_NB_count B_NB_count_i
  unfold fCount at k
  rw [R1.1, R2.1, R2.2.1, R7.1, R3.2.1, R4.2.1, R5.1]
  refine ⟨fun c => ?_, fun c => ?_, fun c => ?_, fun c => ?_, fun c => ?_, fun c => ?_, fun c => ?_, fun c => ?_, fun c => ?_, fun c => ?_, fun c => ?_, fun c => ?_, fun c => ?_, fun c0 c1 c2 c3 c4 c5 c6 c7 c8 c9 c10 c11 c12 => ?_⟩
  · subst c; exact k
  · subst c; exact k
  · subst c; exact s_many (w := 0) R1.1 h7 R2 (hw31 I) (by decide) k
  · subst c; exact s_many (w := 1) R1.1 h7 R2 (hw31 I) (by decide) k
  · subst c; exact s_many (w := 2) R1.1 h7 R2 (hw31 I) (by decide) k
  · subst c; exact s_many (w := 3) R1.1 h7 R2 (hw31 I) (by decide) k
  · subst c; exact k
  · subst c; exact s_coins R1.1 h7 R2 k
  · subst c; exact s_work R1.1 h7 R2 k
  · subst c; exact k
  · subst c; exact k
  · subst c; exact k
  · subst c; exact k
  · rw [if_neg c0, if_neg c1, if_neg c2, if_neg c3, if_neg c4, if_neg c5, if_neg c6, if_neg c7, if_neg c8, if_neg c9, if_neg c10, if_neg c11, if_neg c12] at k; exact k
end
