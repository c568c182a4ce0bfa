theorem hB_ps3 (P : PT) (h : HT) : ∀ i, hB (ps3 P i h) = hB h
  | 0 => rfl
  | i + 1 => by
    unfold ps3
    split
    · rw [(hX_fr P _ i).2.2.2.2.2.2.1]; exact hB_ps3 P h i
    · exact hB_ps3 P h i
def FVx (P : PT) (h : HT) : Prop := (∀ c, hC h = some c → c < pN P) ∧ ∀ g, g < pN P → hW h g ≤ 3 ∧ hD h g < 2 ^ 30 ∧ hS h g < 2 ^ 7 ∧ ∀ c, hB h g = some c → c < pN P
theorem fvx_ps3 {P : PT} {h : HT} (v : FVx P h) (i : Nat) : FVx P (ps3 P i h) := by
  obtain ⟨a1, a2, a3, a4⟩ := hX_ps3 P h i
  refine ⟨by rw [a1]; exact v.1, fun g hg => ?_⟩
  obtain ⟨v1, v2, v3, v4⟩ := v.2 g hg
  rw [a2, a3, a4, hB_ps3]
  refine ⟨?_, v2, v3, v4⟩
  split
  · decide
  · exact v1
theorem m_frees2 {N : Mem} {r : Nat} {P : PT} {h : HT} {post : Mem → Prop} (hP : PM N P) (pw : PW P) (hh : MR N r (pN P) h) (v : FVx P h) (hr : r + 51 ≤ 612) (k : ∀ N', MR N' r (pN P) (ps3 P (pN P) h) → FM r N N' → post N') : P_MD_freesThose N (nI r) post := by
  have h7 := pw.1
  intro R2 k2
  have L : ∀ i, i ≤ pN P → ∀ N1, MR N1 r (pN P) (ps3 P i h) → FM r N N1 → R2 N1 (nI i) := by
    refine up_loop (fun i hi ih M1 q f => ?_) (fun M1 q f => ?_)
    · apply k2
      unfold B_MD_freesThose_2
      have hP1 := hP.fr f
      have v3 := fvx_ps3 v i
      obtain ⟨b1, b2, b3, b4⟩ := v3.2 i hi
      obtain ⟨e1, -, -, e4, -, -, -⟩ := q.2.2 i hi
      simp (disch := omega) only [a1, a2, a23, nI_1, nI_add, cl, forall_eq]
      rw [hP1.1, e1, e4, q.2.1]
      refine br_f (nI_ge hi (by omega)) ⟨vin (by omega) (by decide), ?_⟩
      by_cases c1 : hW (ps3 P i h) i = 1
      · refine brn_t (by rw [c1]; rfl) ⟨vin (by omega) (by decide), ?_⟩
        by_cases c2 : hC (ps3 P i h) = some i
        · refine br_t (by rw [c2]; rfl) (ih _ ?_ f)
          rw [ps3, if_neg (fun z => z.2.1 c2)]; exact q
        · refine br_f (fun z => c2 ?_) ⟨vin (by omega) (by decide), ?_⟩
          · cases c3 : hC (ps3 P i h) with
            | none => rw [c3] at z; exact absurd z.symm (nI_ne4 (by omega))
            | some c =>
              rw [c3] at z
              have hc := v3.1 c c3
              rw [nI_inj (by omega) (by omega) z]
          · by_cases c3 : hD (ps3 P i h) i = 0
            · refine brn_t (by rw [c3]; rfl) ?_
              refine m_free hP1 pw q hr b4 (by omega) hi (fun M2 q2 f2 => ih _ ?_ (f.tr f2))
              rw [ps3, if_pos ⟨c1, c2, c3⟩]; exact q2
            · refine brn_f (fun z => c3 (nI_inj (b := 0) (by omega) (by decide) z)) (ih _ ?_ f)
              rw [ps3, if_neg (fun z => c3 z.2.2)]; exact q
      · refine brn_f (fun z => c1 (nI_inj (b := 1) (by omega) (by decide) z)) (ih _ ?_ f)
        rw [ps3, if_neg (fun z => c1 z.1)]; exact q
    · apply k2
      unfold B_MD_freesThose_2
      have hP1 := hP.fr f
      rw [hP1.1]
      exact br_t (nI_le (Nat.le_refl _) (by omega)) (k _ q f)
  unfold B_MD_freesThose_i
  simp only [forall_eq]
  exact L 0 (Nat.zero_le _) _ hh FM.rf
/-- nobody has come -/
def zz (h : HT) : Nat → HT
  | 0 => sC h none
  | j + 1 => sG (sS (sB (sD (sW (zz h j) j 0) j 0) j none) j 0) j 0
theorem zz_f (h : HT) : ∀ j, hC (zz h j) = none ∧ ∀ g, g < j → hW (zz h j) g = 0 ∧ hB (zz h j) g = none ∧ hS (zz h j) g = 0 ∧ hG (zz h j) g = 0 ∧ hD (zz h j) g = 0
  | 0 => ⟨rfl, fun g hg => absurd hg (Nat.not_lt_zero _)⟩
  | j + 1 => by
    obtain ⟨e1, e2⟩ := zz_f h j
    refine ⟨e1, fun g hg => ?_⟩
    show va_up (hW (zz h j)) j 0 g = 0 ∧ va_up (hB (zz h j)) j none g = none ∧ va_up (hS (zz h j)) j 0 g = 0 ∧ va_up (hG (zz h j)) j 0 g = 0 ∧ va_up (hD (zz h j)) j 0 g = 0
    by_cases c : g = j
    · subst c; rw [up_s, up_s, up_s, up_s, up_s]; exact ⟨rfl, rfl, rfl, rfl, rfl⟩
    · rw [up_n c, up_n c, up_n c, up_n c, up_n c]; exact e2 g (by omega)
theorem c74 (g : Nat) : 74 + nI g = nI (74 + g) := nI_add 74 g
theorem c81 (g : Nat) : 81 + nI g = nI (81 + g) := nI_add 81 g
theorem c95 (g : Nat) : 95 + nI g = nI (95 + g) := nI_add 95 g
section
variable {T : Nat} {s : ST} {N : Mem}
theorem m_areSo {l : List Nat} {post : Int32 → Mem → Prop} (I : IX T s) (R : RM s N) (e14 : ∀ e x : Nat, l[e]? = some x → N 14 e = nI x) (hl : l.length = pN (xP s)) (hx : ∀ x, x ∈ l → x < pN (xP s)) (nd : l.Nodup) (k : ∀ N', RM s N' → (∀ q, q ≠ 1 → N' q = N q) → post (isB (okO (xP s) (xE s) l)) N') : P_MD_areSo N post := by
  have pw := I.1
  have h7 := I.1.1
  have he : (xE s).length ≤ 7 := I.2.2.2.2.2.2.2.2.2.1
  have hq : ∀ q, q ∈ xE s → q.1 < pN (xP s) ∧ q.2 ≤ 200 := I.2.2.2.2.2.2.2.2.2.2.1
  intro R15 R82 R144 R104 k15 k82 k144 k104
  have seen : ∀ (B A : List (Nat × Nat)) N1, xE s = A ++ B → RM s N1 → (∀ q, q ≠ 1 → N1 q = N q) → (∀ g, g < pN (xP s) → N1 1 (95 + g) = coO (xP s) l g) → R144 N1 (isB (okO (xP s) A l)) (nI A.length) := by
    intro B
    induction B with
    | nil =>
      intro A N1 ea R1 q1 co
      rw [List.append_nil] at ea
      apply k144
      unfold B_MD_areSo_144
      rw [R1.2.2.2.2.2.1, ea]
      refine br_t (nI_le (Nat.le_refl _) (by rw [ea] at he; omega)) ⟨nB _, ?_⟩
      have := k N1 R1 q1
      rw [ea] at this
      exact this
    | cons q B ih =>
      intro A N1 ea R1 q1 co
      have hA : A.length < (xE s).length := by rw [ea, List.length_append, List.length_cons]; omega
      obtain ⟨g1, g2⟩ := R1.2.2.2.2.2.2 A.length q (by rw [ea, List.getElem?_append_right (Nat.le_refl _), Nat.sub_self]; rfl)
      obtain ⟨b1, b2⟩ := hq q (by rw [ea]; exact List.mem_append_right _ (List.mem_cons_self ..))
      have eo : okO (xP s) (A ++ [q]) l = (okO (xP s) A l && decide (coO (xP s) l q.1 = nI q.2)) := by
        unfold okO
        rw [List.all_append, List.all_cons, List.all_nil, Bool.and_true]
      have nx := ih (A ++ [q]) N1 (by rw [ea, List.append_assoc]; rfl) R1 q1 co
      rw [List.length_append, eo] at nx
      apply k144
      unfold B_MD_areSo_144
      rw [R1.2.2.2.2.2.1]
      simp (disch := omega) only [cl, forall_eq, g1, g2, nI_1, c95]
      rw [co q.1 b1]
      refine br_f (nI_ge hA (by omega)) ?_
      cases ok : okO (xP s) A l with
      | false =>
        rw [ok, Bool.false_and] at nx
        exact br_t rfl nx
      | true =>
        rw [ok, Bool.true_and] at nx
        refine br_f (by decide) ⟨vin (by omega) (by decide), vin (by omega) (by decide), vin (by omega) (by decide), ?_⟩
        by_cases c : coO (xP s) l q.1 = nI q.2
        · rw [decide_eq_true c] at nx
          exact brn_t c nx
        · rw [decide_eq_false c] at nx
          exact brn_f c nx
  have comes : ∀ (B A : List Nat) (t : OT) (h' : HT) N1, l = A ++ B → t = A.foldl (stpO (xP s)) (none, none, 0, fun _ => 0) → AS (xP s) A h' t → MR N1 51 (pN (xP s)) h' → RM s N1 → (∀ q, q ≠ 1 → N1 q = N q) → R82 N1 (nI A.length) := by
    intro B
    induction B with
    | nil =>
      intro A t h' N1 e et S H R1 q1
      rw [List.append_nil] at e
      apply k82
      unfold B_MD_areSo_82
      rw [R1.1.1, show A.length = pN (xP s) by rw [← e]; exact hl]
      refine br_t (nI_le (Nat.le_refl _) (by omega)) ?_
      simp only [forall_eq]
      refine seen (xE s) [] N1 rfl R1 q1 (fun g hg => ?_)
      have : N1 1 (95 + g) = hG h' g := (H.2.2 g hg).2.2.2.2.2.2
      rw [this, S.2.1 g hg, et, ← e]; rfl
    | cons x B ih =>
      intro A t h' N1 e et S H R1 q1
      have hA : A.length < pN (xP s) := by rw [← hl, e, List.length_append, List.length_cons]; omega
      have gx : N1 14 A.length = nI x := by
        rw [q1 14 (by decide)]
        exact e14 _ x (by rw [e, List.getElem?_append_right (Nat.le_refl _), Nat.sub_self]; rfl)
      have hxn : x < pN (xP s) := hx x (by rw [e]; exact List.mem_append_right _ (List.mem_cons_self ..))
      have hxA : x ∉ A := by
        rw [e, List.nodup_append] at nd
        exact fun z => nd.2.2 x z x (List.mem_cons_self ..) rfl
      have hcap : ∀ c, hC h' = some c → c < pN (xP s) := fun c z => (S.2.2.1 c (S.1.symm.trans z)).1
      apply k82
      unfold B_MD_areSo_82
      rw [R1.1.1]
      simp (disch := omega) only [cl, gx, forall_eq, nI_1]
      refine br_f (nI_ge hA (by omega)) ⟨vin (by omega) (by decide), m_comes (r := 51) R1.1 pw H (by decide) hcap hxn (fun N2 H2 f2 => ?_)⟩
      have L : ∀ i, i ≤ pN (xP s) → ∀ (f : Nat → Nat) N3, (∀ g, g < i → f g = 0) → MR N3 51 (pN (xP s)) (sDD (cm (xP s) h' x) f) → FM 51 N1 N3 → R104 N3 (nI A.length) (nI i) := by
        refine up_loop (fun i hi ihi f N3 w H3 F => ?_) (fun f N3 w H3 F => ?_)
        · apply k104
          unfold B_MD_areSo_104
          rw [(R1.1.fr F).1]
          simp (disch := omega) only [cl, forall_eq, nI_1, c74]
          refine br_f (nI_ge hi (by omega)) ⟨vin (by omega) (by decide), ihi (va_up f i 0) _ (fun g hg => ?_) (MR.sD (g := i) (x := 0) H3 h7 hi) (F.set (by omega) (by omega))⟩
          by_cases c : g = i
          · subst c; exact up_s _ _ _
          · rw [up_n c]; exact w g (by omega)
        · apply k104
          unfold B_MD_areSo_104
          rw [(R1.1.fr F).1]
          have S' := as_step S h7 hxn hxA w
          have FV : FVx (xP s) (sDD (cm (xP s) h' x) f) := by
            refine ⟨fun c e => ?_, fun g hg => ⟨?_, ?_, ?_, fun c e => ?_⟩⟩
            · have e : hC (cm (xP s) h' x) = some c := e
              rw [hC_cm] at e
              split at e
              · exact hcap c e
              · cases e; exact hxn
            · show hW (cm (xP s) h' x) g ≤ 3
              rw [hW_cm]
              split
              · split <;> decide
              · exact (S.2.2.2.2.2.2 g hg).1
            · show f g < 2 ^ 30
              rw [w g hg]; decide
            · show hS (cm (xP s) h' x) g < 2 ^ 7
              rw [hS_cm]
              split
              · exact or_lt7 (S.2.2.2.2.2.2 g hg).2.1 (by omega)
              · exact (S.2.2.2.2.2.2 g hg).2.1
            · have e : hB (cm (xP s) h' x) g = some c := e
              rw [hB_cm] at e
              cases ec : hC h' with
              | none => rw [ec] at e; exact (S.2.2.2.2.2.2 g hg).2.2 c e
              | some c0 =>
                rw [ec] at e
                simp only at e
                split at e
                · cases e; exact hcap _ ec
                · exact (S.2.2.2.2.2.2 g hg).2.2 c e
          refine br_t (nI_le (Nat.le_refl _) (by omega)) (m_frees2 (r := 51) (R1.1.fr F) pw H3 FV (by decide) (fun N4 H4 F4 => ?_))
          simp only [forall_eq, nI_1]
          have := ih (A ++ [x]) (stpO (xP s) t x) _ N4 (by rw [e, List.append_assoc]; rfl) (by rw [List.foldl_append, et]; rfl) S' H4 (rm_fm I R1 (F.tr F4)) (fun q hq => ((F.tr F4).1 q hq).trans (q1 q hq))
          rw [List.length_append] at this
          exact this
      exact L 0 (Nat.zero_le _) (hD (cm (xP s) h' x)) N2 (fun g hg => absurd hg (Nat.not_lt_zero _)) H2 f2
  unfold B_MD_areSo_i
  refine m_tries I R (fun N1 R1 H1 f1 e1 => ⟨vin (n := 52) (by decide) (by decide), ?_⟩)
  simp only [forall_eq]
  have L : ∀ j, j ≤ pN (xP s) → ∀ N2, MR N2 51 (pN (xP s)) (zz (xH s) j) → RM s N2 → (∀ q, q ≠ 1 → N2 q = N q) → R15 N2 (nI j) := by
    refine up_loop (fun j hj ih N2 H2 R2 q2 => ?_) (fun N2 H2 R2 q2 => ?_)
    · apply k15
      unfold B_MD_areSo_15
      rw [R2.1.1]
      simp (disch := omega) only [cl, forall_eq, nI_1, c53, c74, c81, c88, c95]
      refine br_f (nI_ge hj (by omega)) ⟨vin (by omega) (by decide), vin (by omega) (by decide), vin (by omega) (by decide), vin (by omega) (by decide), vin (by omega) (by decide), ?_⟩
      have a1 := MR.sW (g := j) (x := 0) H2 h7 hj
      have a2 := MR.sD (g := j) (x := 0) a1 h7 hj
      have a3 := MR.sB (g := j) (x := none) a2 h7 hj
      have a4 := MR.sS (g := j) (x := 0) a3 h7 hj
      have a5 := MR.sG (g := j) (x := 0) a4 h7 hj
      have F : FM 51 N2 (mset (mset (mset (mset (mset N2 1 (53 + j) 0) 1 (74 + j) 0) 1 (81 + j) (-4)) 1 (88 + j) 0) 1 (95 + j) 0) := ((((FM.rf.set (by omega) (by omega)).set (by omega) (by omega)).set (by omega) (by omega)).set (by omega) (by omega)).set (by omega) (by omega)
      exact ih _ a5 (rm_fm I R2 F) (fun q hq => (F.1 q hq).trans (q2 q hq))
    · apply k15
      unfold B_MD_areSo_15
      rw [R2.1.1]
      refine br_t (nI_le (Nat.le_refl _) (by omega)) ?_
      simp only [forall_eq]
      obtain ⟨z1, z2⟩ := zz_f (xH s) (pN (xP s))
      refine comes l [] (none, none, 0, fun _ => 0) _ N2 rfl rfl ⟨z1, fun g hg => (z2 g hg).2.2.2.1, fun c z => (Option.some_ne_none c z.symm).elim, fun g hg w => ?_, fun g hg _ => ⟨(z2 g hg).2.1, (z2 g hg).2.2.1⟩, fun x hx _ c hc => ?_, fun g hg => ⟨?_, ?_, fun c e => ?_⟩⟩ H2 R2 q2
      · rw [(z2 g hg).1] at w; cases w
      · rw [(z2 c hc).2.2.1, Nat.zero_div]
      · rw [(z2 g hg).1]; decide
      · rw [(z2 g hg).2.2.1]; decide
      · rw [(z2 g hg).2.1] at e; cases e
  have F0 : FM 51 N1 (mset N1 1 52 (-4)) := FM.rf.set (by decide) (by decide)
  exact L 0 (Nat.zero_le _) _ (MR.sC (x := none) H1) (rm_fm I R1 F0) (fun q hq => (F0.1 q hq).trans (e1 q hq))
end
