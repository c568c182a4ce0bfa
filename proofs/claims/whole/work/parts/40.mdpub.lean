theorem b0 (r : Nat) : 0 + nI r = nI r := by rw [show (0 : Int32) = nI 0 from rfl, nI_add, Nat.zero_add]
theorem c2 (g : Nat) : 2 + nI g = nI (2 + g) := nI_add 2 g
theorem c9 (g : Nat) : 9 + nI g = nI (9 + g) := nI_add 9 g
theorem c16 (g : Nat) : 16 + nI g = nI (16 + g) := nI_add 16 g
theorem c23 (g : Nat) : 23 + nI g = nI (23 + g) := nI_add 23 g
theorem m_rg {N : Mem} {p : Int32} {lo hi : Int64} (a b : Nat) {post : Int32 → Mem → Prop} (hb : b < 2 ^ 31) (ha : lo.toInt = a) (hh : hi.toInt = b) (h0 : rg a b p = none → post 0 N) (h1 : ∀ c, rg a b p = some c → a ≤ c → c ≤ b → p = nI c → post 1 N) : P_MD_in N p.toInt64 lo hi post := by
  refine m_in (fun x y => ?_) (fun x => ?_)
  · rw [Int32.toInt_toInt64, ha] at x
    rw [Int32.toInt_toInt64, hh] at y
    rcases rg_cases a b hb p with ⟨e, c⟩ | ⟨c, e, c1, c2, e2⟩
    · omega
    · exact h1 c e c1 c2 e2
  · rw [Int32.toInt_toInt64, ha, hh] at x
    rcases rg_cases a b hb p with ⟨e, c⟩ | ⟨c, e, c1, c2, e2⟩
    · exact h0 e
    · rw [e2, nI_toInt (by omega)] at x
      omega
theorem rm_text {s : ST} {N N' : Mem} {x : List Nat} (R : RM s N) (e : ∀ q i, (q = 0 → i ≠ 12) → q ≠ 8 → N' q i = N q i) (h : TM N' x) : RM (mST (xP s) (xH s) (xU s) (xK s) x (xE s)) N' := by
  have e1 : ∀ q, q ≠ 0 → q ≠ 8 → N' q = N q := fun q h1 h2 => funext fun i => e q i (fun z => absurd z h1) h2
  have e0 : ∀ i, i ≠ 12 → N' 0 i = N 0 i := fun i hi => e 0 i (fun _ => hi) (by decide)
  obtain ⟨R1, R2, ⟨R3, R4⟩, ⟨R5, R6⟩, R7, R8⟩ := R
  refine ⟨R1.of (e0 3 (by decide)) (fun q h1 h2 => e1 q (by omega) (by omega)), ?_, ⟨by rw [e0 1 (by decide)]; exact R3, fun i h hh => ?_⟩, ⟨by rw [e0 2 (by decide)]; exact R5, fun i h hh => ?_⟩, h, ?_⟩
  · unfold MR; rw [e1 1 (by decide) (by decide)]; exact R2
  · unfold MR; rw [e1 1 (by decide) (by decide)]; exact R4 i h hh
  · unfold MR; rw [e1 1 (by decide) (by decide)]; exact R6 i h hh
  · unfold NM; rw [e0 8 (by decide), e1 6 (by decide) (by decide), e1 7 (by decide) (by decide)]; exact R8
theorem rm_seen {s : ST} {N N' : Mem} {x : List (Nat × Nat)} (R : RM s N) (e : ∀ q i, (q = 0 → i ≠ 8) → q ≠ 6 → q ≠ 7 → N' q i = N q i) (h : NM N' x) : RM (mST (xP s) (xH s) (xU s) (xK s) (xX s) x) N' := by
  have e1 : ∀ q, q ≠ 0 → q ≠ 6 → q ≠ 7 → N' q = N q := fun q h1 h2 h3 => funext fun i => e q i (fun z => absurd z h1) h2 h3
  have e0 : ∀ i, i ≠ 8 → N' 0 i = N 0 i := fun i hi => e 0 i (fun _ => hi) (by decide) (by decide)
  obtain ⟨R1, R2, ⟨R3, R4⟩, ⟨R5, R6⟩, R7, R8⟩ := R
  refine ⟨R1.of (e0 3 (by decide)) (fun q h1 h2 => e1 q (by omega) (by omega) (by omega)), ?_, ⟨by rw [e0 1 (by decide)]; exact R3, fun i h hh => ?_⟩, ⟨by rw [e0 2 (by decide)]; exact R5, fun i h hh => ?_⟩, ?_, h⟩
  · unfold MR; rw [e1 1 (by decide) (by decide) (by decide)]; exact R2
  · unfold MR; rw [e1 1 (by decide) (by decide) (by decide)]; exact R4 i h hh
  · unfold MR; rw [e1 1 (by decide) (by decide) (by decide)]; exact R6 i h hh
  · unfold TM; rw [e0 12 (by decide), e1 8 (by decide) (by decide) (by decide)]; exact R7
theorem rm_house {s : ST} {N N' : Mem} {h : HT} (R : RM s N) (hh : MR N' 0 (pN (xP s)) h) (f : FM 0 N N') : RM (mST (xP s) h (xU s) (xK s) (xX s) (xE s)) N' := by
  obtain ⟨R1, R2, ⟨R3, R4⟩, ⟨R5, R6⟩, R7, R8⟩ := R
  have e1 : ∀ i, 51 ≤ i → N' 1 i = N 1 i := fun i hi => f.2 i (by omega)
  refine ⟨R1.fr f, hh, ⟨by rw [f.1 0 (by decide)]; exact R3, fun i x hx => ?_⟩, ⟨by rw [f.1 0 (by decide)]; exact R5, fun i x hx => ?_⟩, ?_, ?_⟩
  · have r := R4 i x hx
    refine ⟨by rw [e1 _ (by omega)]; exact r.1, by rw [e1 _ (by omega)]; exact r.2.1, fun j hj => ?_⟩
    obtain ⟨y1, y2, y3, y4, y5, y6, y7⟩ := r.2.2 j hj
    exact ⟨by rw [e1 _ (by omega)]; exact y1, by rw [e1 _ (by omega)]; exact y2, by rw [e1 _ (by omega)]; exact y3, by rw [e1 _ (by omega)]; exact y4, by rw [e1 _ (by omega)]; exact y5, by rw [e1 _ (by omega)]; exact y6, by rw [e1 _ (by omega)]; exact y7⟩
  · have r := R6 i x hx
    refine ⟨by rw [e1 _ (by omega)]; exact r.1, by rw [e1 _ (by omega)]; exact r.2.1, fun j hj => ?_⟩
    obtain ⟨y1, y2, y3, y4, y5, y6, y7⟩ := r.2.2 j hj
    exact ⟨by rw [e1 _ (by omega)]; exact y1, by rw [e1 _ (by omega)]; exact y2, by rw [e1 _ (by omega)]; exact y3, by rw [e1 _ (by omega)]; exact y4, by rw [e1 _ (by omega)]; exact y5, by rw [e1 _ (by omega)]; exact y6, by rw [e1 _ (by omega)]; exact y7⟩
  · unfold TM; rw [f.1 0 (by decide), f.1 8 (by decide)]; exact R7
  · unfold NM; rw [f.1 0 (by decide), f.1 6 (by decide), f.1 7 (by decide)]; exact R8
section
variable {N : Mem} {r n g : Nat} {P : PT} {h : HT}
theorem m_many {w : Nat} {post : Int32 → Mem → Prop} (hn : N 0 3 = nI n) (h7 : n ≤ 7) (hh : MR N r n h) (hr : r + 51 ≤ 612) (hw : ∀ g, g < n → hW h g < 2 ^ 31) (hw2 : w < 2 ^ 31) (k : post (nI (cW h w n)) N) : P_MD_manyHow N (nI r) (nI w) post := by
  intro R5 k5
  have L : ∀ i, i ≤ n → R5 N (nI (cW h w i)) (nI i) := by
    refine up_loop (fun i hi ih => ?_) ?_
    · apply k5
      unfold B_MD_manyHow_5
      obtain ⟨e1, -⟩ := hh.2.2 i hi
      simp (disch := omega) only [a2, nI_add, cl, nI_1, forall_eq]
      rw [hn, e1]
      refine br_f (nI_ge hi (by omega)) ⟨vin (by omega) (by decide), ?_⟩
      by_cases c : hW h i = w
      · refine brn_t (by rw [c]) ?_
        rw [cW, if_pos c] at ih; exact ih
      · refine brn_f (fun z => c (nI_inj (hw i hi) hw2 z)) ?_
        rw [cW, if_neg c] at ih
        rw [a0]; exact ih
    · apply k5
      unfold B_MD_manyHow_5
      rw [hn]
      exact br_t (nI_le (Nat.le_refl _) (by omega)) k
  unfold B_MD_manyHow_i
  simp only [forall_eq]
  exact L 0 (Nat.zero_le _)
theorem m_coins {post : Int32 → Mem → Prop} (hn : N 0 3 = nI n) (h7 : n ≤ 7) (hh : MR N r n h) (hr : r + 51 ≤ 612) (k : post (smG h n) N) : P_MD_coinsOf N (nI r) post := by
  intro R4 k4
  have L : ∀ i, i ≤ n → R4 N (smG h i) (nI i) := by
    refine up_loop (fun i hi ih => ?_) ?_
    · apply k4
      unfold B_MD_coinsOf_4
      obtain ⟨-, -, -, -, -, -, e7⟩ := hh.2.2 i hi
      simp (disch := omega) only [a44, nI_add, cl, nI_1, forall_eq]
      rw [hn, e7]
      exact br_f (nI_ge hi (by omega)) ⟨vin (by omega) (by decide), ih⟩
    · apply k4
      unfold B_MD_coinsOf_4
      rw [hn]
      exact br_t (nI_le (Nat.le_refl _) (by omega)) k
  unfold B_MD_coinsOf_i
  simp only [forall_eq]
  exact L 0 (Nat.zero_le _)
theorem m_todo {post : Int32 → Mem → Prop} (hn : N 0 3 = nI n) (h7 : n ≤ 7) (hh : MR N 0 n h) (k : post (nI (smD h n)) N) : P_MD_allToDo N post := by
  intro R4 k4
  have L : ∀ i, i ≤ n → R4 N (nI (smD h i)) (nI i) := by
    refine up_loop (fun i hi ih => ?_) ?_
    · apply k4
      unfold B_MD_allToDo_4
      obtain ⟨-, -, -, e4, -, -, -⟩ := hh.2.2 i hi
      rw [Nat.zero_add] at e4
      simp (disch := omega) only [c23, cl, nI_1, forall_eq]
      rw [hn, e4, nI_add]
      exact br_f (nI_ge hi (by omega)) ⟨vin (by omega) (by decide), ih⟩
    · apply k4
      unfold B_MD_allToDo_4
      rw [hn]
      exact br_t (nI_le (Nat.le_refl _) (by omega)) k
  unfold B_MD_allToDo_i
  simp only [forall_eq]
  exact L 0 (Nat.zero_le _)
theorem m_canBook {x : Nat} {post : Int32 → Mem → Prop} (h7 : n ≤ 7) (hh : MR N r n h) (hr : r + 51 ≤ 612) (hw : ∀ g, g < n → hW h g < 2 ^ 31) (ht : hT h < 2 ^ 31) (hx : x < 2 ^ 31) (hg : g < n) (k1 : hW h g = 0 ∧ hT h ≤ x → post 1 N) (k0 : ¬ (hW h g = 0 ∧ hT h ≤ x) → post 0 N) : P_MD_canBook N (nI r) (nI g) (nI x) post := by
  unfold P_MD_canBook B_MD_canBook_i
  obtain ⟨e1, -⟩ := hh.2.2 g hg
  simp (disch := omega) only [a0, a2, nI_add, cl]
  rw [e1, hh.1]
  refine ⟨vin (by omega) (by decide), brn_c (fun c => k0 (fun z => c (by rw [z.1]; rfl))) (fun c => ⟨vin (by omega) (by decide), br_c (fun d => k0 (fun z => ?_)) (fun d => k1 ⟨nI_inj (b := 0) (hw g hg) (by decide) c, ?_⟩)⟩)⟩
  · have := (nI_ltI hx ht).mp d
    omega
  · rcases Nat.lt_or_ge x (hT h) with q | q
    · exact absurd (nI_lt q ht) d
    · exact q
theorem m_canChange {j : Nat} {post : Int32 → Mem → Prop} (h7 : n ≤ 7) (hh : MR N r n h) (hr : r + 51 ≤ 612) (hw : ∀ g, g < n → hW h g < 2 ^ 31) (hg : g < n) (hj : j < n) (k1 : hW h g = 0 ∧ hW h j = 0 ∧ ¬ g = j → post 1 N) (k0 : ¬ (hW h g = 0 ∧ hW h j = 0 ∧ ¬ g = j) → post 0 N) : P_MD_canChange N (nI r) (nI g) (nI j) post := by
  unfold P_MD_canChange B_MD_canChange_i
  obtain ⟨e1, -⟩ := hh.2.2 g hg
  obtain ⟨e2, -⟩ := hh.2.2 j hj
  simp (disch := omega) only [a2, nI_add, cl]
  rw [e1, e2]
  refine ⟨vin (by omega) (by decide), brn_c (fun c => k0 (fun z => c (by rw [z.1]; rfl))) (fun c => ⟨vin (by omega) (by decide), brn_c (fun d => k0 (fun z => d (by rw [z.2.1]; rfl))) (fun d => br_c (fun e => k0 (fun z => z.2.2 (nI_inj (by omega) (by omega) e))) (fun e => k1 ⟨nI_inj (b := 0) (hw g hg) (by decide) c, nI_inj (b := 0) (hw j hj) (by decide) d, fun z => e (by rw [z])⟩))⟩)⟩
theorem m_changes {j : Nat} {post : Mem → Prop} (h7 : n ≤ 7) (hh : MR N r n h) (hr : r + 51 ≤ 612) (hg : g < n) (hj : j < n) (k : ∀ N', MR N' r n (swp h g j) → FM r N N' → post N') : P_MD_changes N (nI r) (nI g) (nI j) post := by
  unfold P_MD_changes B_MD_changes_i
  simp (disch := omega) only [a16, nI_add, cl, forall_eq]
  refine ⟨vin (by omega) (by decide), vin (by omega) (by decide), vin (by omega) (by decide), vin (by omega) (by decide), k _ ?_ ((FM.rf.set (by omega) (by omega)).set (by omega) (by omega))⟩
  rw [(hh.2.2 g hg).2.2.1, (hh.2.2 j hj).2.2.1]
  exact MR.sR (MR.sR hh h7 hg) h7 hj
end
section
variable {T : Nat} {s : ST} {N : Mem}
theorem y_write {p : Int32} {post : Int32 → Mem → Prop} (I : IX T s) (R : RM s N) (k : ∀ N', RM (fWrite s p).2 N' → post (fWrite s p).1 N') : P_MD_write N p post := by
  have hl : (xX s).length ≤ 200 := I.2.2.2.2.2.2.2.1
  obtain ⟨R1, R2, ⟨R3, R4⟩, ⟨R5, R6⟩, R7, R8⟩ := id R
  unfold P_MD_write B_MD_write_i
  unfold fWrite at k
  refine m_rg 32 126 (by decide) (by decide) (by decide) (fun e => brn_t rfl ?_) (fun c e c1 c2 e2 => brn_f (by decide) ?_)
  · rw [e] at k; exact k N R
  · rw [e] at k
    simp only at k
    subst e2
    rw [R7.1]
    by_cases z : (xX s).length = 200
    · rw [if_pos z] at k
      exact brn_t (by rw [z]; rfl) (k N R)
    · rw [if_neg z] at k
      refine brn_f (fun y => z (nI_inj (b := 200) (by omega) (by decide) y)) ⟨vin (by omega) (by decide), ?_⟩
      simp (disch := omega) only [cl, forall_eq, ms_k, R7.1, nI_1]
      rw [ms_s]
      refine k _ (rm_text R (fun q i h1 h2 => ?_) ⟨?_, fun i x hx => ?_⟩)
      · by_cases q0 : q = 0
        · subst q0; rw [ms_j (h1 rfl), ms_k (by decide)]
        · rw [ms_k q0, ms_k h2]
      · rw [ms_s, List.length_append]; rfl
      · rw [ms_k (by decide)]
        by_cases zz : i = (xX s).length
        · subst zz
          rw [List.getElem?_append_right (Nat.le_refl _), Nat.sub_self] at hx
          cases hx
          rw [ms_s]
        · have hi : i < (xX s ++ [c]).length := (List.getElem?_eq_some_iff.mp hx).1
          rw [List.length_append] at hi
          have hi : i < (xX s).length + 1 := hi
          rw [List.getElem?_append_left (by omega)] at hx
          rw [ms_j zz]; exact R7.2 i x hx
theorem y_wipe {post : Int32 → Mem → Prop} (R : RM s N) (k : ∀ N', RM (fWipe s).2 N' → post (fWipe s).1 N') : P_MD_wipe N post := by
  unfold P_MD_wipe B_MD_wipe_i
  simp only [forall_eq]
  rw [R.2.2.2.2.1.1]
  refine k _ (rm_text R (fun q i h1 h2 => ?_) ⟨ms_s _ _ _ _, fun i c hc => by cases hc⟩)
  by_cases q0 : q = 0
  · subst q0; rw [ms_j (h1 rfl)]
  · rw [ms_k q0]
theorem y_guest {p q : Int32} {post : Int32 → Mem → Prop} (I : IX T s) (R : RM s N) (k : ∀ N', RM (fGuest s p q).2 N' → post (fGuest s p q).1 N') : P_MD_guest N p q post := by
  have h7 := I.1.1
  obtain ⟨R1, -⟩ := id R
  unfold P_MD_guest B_MD_guest_i
  refine m_guest R1.1 h7 (fun g hg e => brn_f (by decide) ?_) (fun e => brn_t rfl ?_)
  · subst e
    obtain ⟨e1, e2, e3, e4⟩ := R1.2 g hg
    unfold fGuest at k
    rw [gi_some hg (by omega)] at k
    simp only at k
    simp (disch := omega) only [cl]
    rw [e1, e2, e3, e4]
    refine brn_c (fun c0 => brn_c (fun c1 => brn_c (fun c2 => brn_c (fun c3 => ?_) (fun c => ⟨vin (by omega) (by decide), ?_⟩)) (fun c => ⟨vin (by omega) (by decide), ?_⟩)) (fun c => ⟨vin (by omega) (by decide), ?_⟩)) (fun c => ⟨vin (by omega) (by decide), ?_⟩)
    · rw [if_neg c0, if_neg c1, if_neg c2, if_neg c3] at k; exact k N R
    · subst c; exact k N R
    · subst c; exact k N R
    · subst c; exact k N R
    · subst c; exact k N R
  · unfold fGuest at k
    rw [gi_none (by omega) e] at k
    exact k N R
theorem y_state {p q : Int32} {post : Int32 → Mem → Prop} (I : IX T s) (R : RM s N) (k : ∀ N', RM (fState s p q).2 N' → post (fState s p q).1 N') : P_MD_state N p q post := by
  have h7 := I.1.1
  obtain ⟨R1, R2, -⟩ := id R
  unfold P_MD_state B_MD_state_i
  refine m_guest R1.1 h7 (fun g hg e => br_f (by decide) ?_) (fun e => br_t rfl ?_)
  · subst e
    obtain ⟨e1, e2, e3, e4, e5, e6, e7⟩ := R2.2.2 g hg
    unfold fState at k
    rw [gi_some hg (by omega)] at k
    simp only at k
    refine m_rg 0 6 (by decide) (by decide) (by decide) (fun e => br_t rfl ?_) (fun c e ca cb ec => br_f (by decide) ?_)
    · have nq : ∀ c, c ≤ 6 → ¬ q = nI c := fun c hc z => by
        rw [z] at e
        unfold rg at e
        rw [nI_toInt (by omega), if_pos (by omega)] at e
        cases e
      rw [if_neg (show ¬ q = 0 from nq 0 (by decide)), if_neg (show ¬ q = 1 from nq 1 (by decide)), if_neg (show ¬ q = 2 from nq 2 (by decide)), if_neg (show ¬ q = 3 from nq 3 (by decide)), if_neg (show ¬ q = 4 from nq 4 (by decide)), if_neg (show ¬ q = 5 from nq 5 (by decide)), if_neg (show ¬ q = 6 from nq 6 (by decide))] at k
      exact k N R
    · subst ec
      rw [show (7 : Int32) = nI 7 from rfl, pk_mul, c2, nI_add, cl (by omega)]
      refine ⟨vin (by omega) (by decide), ?_⟩
      rcases (show c = 0 ∨ c = 1 ∨ c = 2 ∨ c = 3 ∨ c = 4 ∨ c = 5 ∨ c = 6 by omega) with rfl | rfl | rfl | rfl | rfl | rfl | rfl
      · rw [show 2 + 7 * 0 + g = 0 + 2 + g by omega, e1]; exact k N R
      · rw [show 2 + 7 * 1 + g = 0 + 9 + g by omega, e2]; exact k N R
      · rw [show 2 + 7 * 2 + g = 0 + 16 + g by omega, e3]; exact k N R
      · rw [show 2 + 7 * 3 + g = 0 + 23 + g by omega, e4]; exact k N R
      · rw [show 2 + 7 * 4 + g = 0 + 30 + g by omega, e5]; exact k N R
      · rw [show 2 + 7 * 5 + g = 0 + 37 + g by omega, e6]; exact k N R
      · rw [show 2 + 7 * 6 + g = 0 + 44 + g by omega, e7]; exact k N R
  · unfold fState at k
    rw [gi_none (by omega) e] at k
    exact k N R
theorem y_pass {p : Int32} {post : Int32 → Mem → Prop} (I : IX T s) (R : RM s N) (k : ∀ N', RM (fPass s p).2 N' → post (fPass s p).1 N') : P_MD_pass N p post := by
  have h7 := I.1.1
  have v := I.2.2.1.1
  have ht := I.2.2.1.2
  have hT20 : T < 2 ^ 20 := I.2.2.2.2.2.2.2.2.2.2.2
  intro R20 k20
  unfold B_MD_pass_i
  unfold fPass at k
  refine m_rg 1 24 (by decide) (by decide) (by decide) (fun e => brn_t rfl ?_) (fun c e ca cb ec => brn_f (by decide) ?_)
  · rw [e] at k; exact k N R
  · rw [e] at k
    simp only at k
    subst ec
    refine m_minds I R (fun N1 Ra => ?_)
    simp only [forall_eq]
    have L : ∀ i, i ≤ c → ∀ N2, MR N2 0 (pN (xP s)) (itp (xP s) i (xH s)) → FM 0 N1 N2 → R20 N2 (nI i) := by
      refine up_loop (fun i hi ih N2 q f2 => ?_) (fun N2 q f2 => ?_)
      · apply k20
        unfold B_MD_pass_20
        refine br_f (nI_ge hi (by omega)) ?_
        have hP2 : PM N2 (xP s) := Ra.1.fr f2
        refine m_hour (r := 0) hP2 I.1 q (gv_itp v I.1 i) (by decide) (by rw [hT_itp]; omega) (fun N3 q3 f3 => ?_)
        simp only [forall_eq, nI_1]
        exact ih N3 q3 (f2.tr f3)
      · apply k20
        unfold B_MD_pass_20
        refine br_t (nI_le (Nat.le_refl _) (by omega)) ⟨vin (n := 0) (by decide) (by decide), ?_⟩
        rw [show (0 : Int32).toNatClampNeg = 0 from rfl, q.1]
        exact k N2 (rm_house (s := act s (xH s)) Ra q f2)
    exact L 0 (Nat.zero_le _) N1 Ra.2.1 FM.rf
theorem y_book {p q : Int32} {post : Int32 → Mem → Prop} (I : IX T s) (R : RM s N) (k : ∀ N', RM (fBook s p q).2 N' → post (fBook s p q).1 N') : P_MD_book N p q post := by
  have h7 := I.1.1
  have ht := I.2.2.1.2
  have hT20 : T < 2 ^ 20 := I.2.2.2.2.2.2.2.2.2.2.2
  obtain ⟨R1, R2, -⟩ := id R
  unfold P_MD_book B_MD_book_i
  refine m_guest R1.1 h7 (fun g hg e => br_f (by decide) ?_) (fun e => br_t rfl ?_)
  · subst e
    unfold fBook at k
    rw [gi_some hg (by omega)] at k
    simp only at k
    refine m_rg 0 40 (by decide) (by decide) (by decide) (fun e => brn_t rfl ?_) (fun x e ca cb ec => brn_f (by decide) ?_)
    · rw [e] at k; exact k N R
    · rw [e] at k
      simp only at k
      subst ec
      refine m_canBook (r := 0) h7 R2 (by decide) (hw31 I) (by omega) (by omega) hg (fun c => brn_f (by decide) ?_) (fun c => brn_t rfl ?_)
      · simp only [if_pos c] at k
        refine m_minds I R (fun N1 Ra => ?_)
        simp (disch := omega) only [c9, cl, forall_eq]
        have Rh := Ra.2.1
        have e2 := (Rh.2.2 g hg).2.1
        rw [Nat.zero_add] at e2
        rw [show N1 1 (9 + g) = nI (hU (xH s) g) from e2]
        refine ⟨vin (by omega) (by decide), vin (by omega) (by decide), k _ (rm_house (s := act s (xH s)) Ra ?_ (FM.rf.set (by omega) (by omega)))⟩
        have := MR.sU (x := x) Rh h7 hg
        rw [Nat.zero_add] at this
        exact this
      · simp only [if_neg c] at k
        exact k N R
  · unfold fBook at k
    rw [gi_none (by omega) e] at k
    exact k N R
theorem y_call {p : Int32} {post : Int32 → Mem → Prop} (I : IX T s) (R : RM s N) (k : ∀ N', RM (fCall s p).2 N' → post (fCall s p).1 N') : P_MD_call N p post := by
  have h7 := I.1.1
  obtain ⟨R1, R2, -⟩ := id R
  unfold P_MD_call B_MD_call_i
  refine m_guest R1.1 h7 (fun g hg e => brn_f (by decide) ?_) (fun e => brn_t rfl ?_)
  · subst e
    unfold fCall at k
    rw [gi_some hg (by omega)] at k
    simp only at k
    have e1 := (R2.2.2 g hg).1
    rw [Nat.zero_add] at e1
    simp (disch := omega) only [c2, cl, forall_eq]
    rw [e1]
    refine ⟨vin (by omega) (by decide), ?_⟩
    by_cases c : hW (xH s) g = 0
    · simp only [if_pos c] at k
      refine br_t (by rw [c]; rfl) (m_minds I R (fun N1 Ra => ⟨vin (by omega) (by decide), ?_⟩))
      have q2 : MR (mset N1 1 (2 + g) 3) 0 (pN (xP s)) (sW (xH s) g 3) := by
        have := MR.sW (x := 3) Ra.2.1 h7 hg
        rw [Nat.zero_add] at this
        exact this
      have f2 : FM 0 N1 (mset N1 1 (2 + g) 3) := FM.rf.set (by omega) (by omega)
      refine m_many (r := 0) (w := 0) (Ra.1.fr f2).1 h7 q2 (by decide) (fun j hj => ?_) (by decide) (k _ (rm_house (s := act s (xH s)) Ra q2 f2))
      show va_up (hW (xH s)) g 3 j < _
      unfold va_up
      split
      · decide
      · exact hw31 I j hj
    · simp only [if_neg c] at k
      exact br_f (fun z => c (nI_inj (b := 0) (hw31 I g hg) (by decide) z)) (k N R)
  · unfold fCall at k
    rw [gi_none (by omega) e] at k
    exact k N R
theorem y_change {p q : Int32} {post : Int32 → Mem → Prop} (I : IX T s) (R : RM s N) (k : ∀ N', RM (fChange s p q).2 N' → post (fChange s p q).1 N') : P_MD_change N p q post := by
  have h7 := I.1.1
  obtain ⟨R1, R2, -⟩ := id R
  unfold P_MD_change B_MD_change_i
  refine m_guest R1.1 h7 (fun g hg e => br_f (by decide) ?_) (fun e => br_t rfl ?_)
  · subst e
    refine m_guest R1.1 h7 (fun j hj e => br_f (by decide) ?_) (fun e => br_t rfl ?_)
    · subst e
      unfold fChange at k
      rw [gi_some hg (by omega), gi_some hj (by omega)] at k
      simp only at k
      by_cases z : g = j
      · simp only [if_pos z] at k
        exact brn_t (by rw [z]) (k N R)
      · simp only [if_neg z] at k
        refine brn_f (fun y => z (nI_inj (by omega) (by omega) y)) ?_
        refine m_canChange (r := 0) h7 R2 (by decide) (hw31 I) hg hj (fun c => brn_f (by decide) ?_) (fun c => brn_t rfl ?_)
        · simp only [if_pos (And.intro c.1 c.2.1)] at k
          refine m_minds I R (fun N1 Ra => m_changes (r := 0) h7 Ra.2.1 (by decide) hg hj (fun N2 q2 f2 => ?_))
          have e3 := (q2.2.2 g hg).2.2.1
          rw [Nat.zero_add] at e3
          simp (disch := omega) only [c16, cl]
          rw [show N2 1 (16 + g) = nI (hR (swp (xH s) g j) g) from e3]
          exact ⟨vin (by omega) (by decide), k N2 (rm_house (s := act s (xH s)) Ra q2 f2)⟩
        · simp only [if_neg (fun y : hW (xH s) g = 0 ∧ hW (xH s) j = 0 => c ⟨y.1, y.2, z⟩)] at k
          exact k N R
    · unfold fChange at k
      rw [gi_some hg (by omega), gi_none (by omega) e] at k
      exact k N R
  · unfold fChange at k
    rw [gi_none (by omega) e] at k
    exact k N R
theorem y_undo {post : Int32 → Mem → Prop} (I : IX T s) (R : RM s N) (k : ∀ N', RM (fUndo s).2 N' → post (fUndo s).1 N') : P_MD_undo N post := by
  have h7 := I.1.1
  have hu := I.2.2.2.2.2.1
  obtain ⟨R1, R2, ⟨R3, R4⟩, ⟨R5, R6⟩, R7, R8⟩ := id R
  unfold P_MD_undo B_MD_undo_i
  unfold fUndo at k
  rw [R3]
  rcases List.eq_nil_or_concat (xU s) with e | ⟨l0, x, e⟩
  · rw [e] at k ⊢
    exact brn_t rfl (k N R)
  · have e : xU s = l0 ++ [x] := by rw [e, List.concat_eq_append]
    have hl : (xU s).length = l0.length + 1 := by rw [e, List.length_append]; rfl
    rw [e, List.getLast?_append, List.dropLast_concat] at k
    simp only [List.getLast?_singleton, Option.some_or] at k
    have e2 : nI (xU s).length - 1 = nI l0.length := by rw [hl]; exact nI_pred _
    refine brn_f (fun z => ?_) ?_
    · have := nI_inj (b := 0) (by omega) (by decide) z
      omega
    · rw [e2]
      simp only [forall_eq]
      rw [ms_s, show (204 : Int32) = nI 204 from rfl, a51]
      refine m_copy0 (p := 204 + 51 * l0.length) (q := 0) (by omega) (by decide) (Or.inr (by omega)) (fun N2 q2 f => ?_)
      have e01 : N2 0 1 = nI l0.length := by rw [f.1 0 (by decide), ms_s]
      rw [e01]
      have hx := R4 l0.length x (by rw [e, List.getElem?_append_right (Nat.le_refl _), Nat.sub_self]; rfl)
      have g1 : ∀ i, 51 ≤ i → N2 1 i = N 1 i := fun i hi => by rw [f.2 i (by omega), ms_k (by decide)]
      have g2 : ∀ q, 2 ≤ q → N2 q = N q := fun q hq => by rw [f.1 q (by omega), mset_ne (by omega)]
      have g0 : ∀ i, i ≠ 1 → N2 0 i = N 0 i := fun i hi => by rw [f.1 0 (by decide), ms_j hi]
      refine k _ ⟨R1.of (g0 3 (by decide)) (fun q h1 _ => g2 q h1), ?_, ⟨e01, fun i h hh => ?_⟩, ⟨by rw [g0 2 (by decide)]; exact R5, fun i h hh => ?_⟩, ?_, ?_⟩
      · exact hx.mv h7 (fun j hj => by rw [q2 j hj, ms_k (by decide)])
      · have hi : i < l0.length := (List.getElem?_eq_some_iff.mp hh).1
        exact (R4 i h (by rw [e, List.getElem?_append_left hi]; exact hh)).of h7 (fun j z1 z2 => g1 j (by omega))
      · exact (R6 i h hh).of h7 (fun j z1 z2 => g1 j (by omega))
      · show TM _ (xX s)
        unfold TM; rw [g0 12 (by decide), g2 8 (by decide)]; exact R7
      · show NM _ (xE s)
        unfold NM; rw [g0 8 (by decide), g2 6 (by decide), g2 7 (by decide)]; exact R8
theorem y_see {p q : Int32} {post : Int32 → Mem → Prop} (I : IX T s) (R : RM s N) (k : ∀ N', RM (fSee s p q).2 N' → post (fSee s p q).1 N') : P_MD_see N p q post := by
  have h7 := I.1.1
  have hl : (xE s).length ≤ 7 := I.2.2.2.2.2.2.2.2.2.1
  obtain ⟨R1, R2, ⟨R3, R4⟩, ⟨R5, R6⟩, R7, R8⟩ := id R
  unfold P_MD_see B_MD_see_i
  refine m_guest R1.1 h7 (fun g hg e => br_f (by decide) ?_) (fun e => br_t rfl ?_)
  · subst e
    unfold fSee at k
    rw [gi_some hg (by omega)] at k
    simp only at k
    refine m_rg 0 200 (by decide) (by decide) (by decide) (fun e => brn_t rfl ?_) (fun x e ca cb ec => brn_f (by decide) ?_)
    · rw [e] at k; exact k N R
    · rw [e] at k
      simp only at k
      subst ec
      rw [R8.1]
      by_cases z : (xE s).length = 7
      · rw [if_pos z] at k
        exact brn_t (by rw [z]; rfl) (k N R)
      · rw [if_neg z] at k
        refine brn_f (fun y => z (nI_inj (b := 7) (by omega) (by decide) y)) ⟨vin (by omega) (by decide), ?_⟩
        simp (disch := omega) only [cl, forall_eq, ms_k, R8.1, nI_1]
        refine ⟨vin (by omega) (by decide), ?_⟩
        rw [ms_s]
        refine k _ (rm_seen R (fun q i h1 h2 h3 => ?_) ⟨?_, fun i y hy => ?_⟩)
        · by_cases q0 : q = 0
          · subst q0; rw [ms_j (h1 rfl), ms_k (by decide), ms_k (by decide)]
          · rw [ms_k q0, ms_k h3, ms_k h2]
        · rw [ms_s, List.length_append]; rfl
        · by_cases zz : i = (xE s).length
          · subst zz
            rw [List.getElem?_append_right (Nat.le_refl _), Nat.sub_self] at hy
            cases hy
            refine ⟨?_, ?_⟩
            · rw [ms_k (by decide), ms_k (by decide), ms_s]
            · rw [ms_k (by decide), ms_s]
          · have hi : i < (xE s ++ [(g, x)]).length := (List.getElem?_eq_some_iff.mp hy).1
            rw [List.length_append] at hi
            have hi : i < (xE s).length + 1 := hi
            rw [List.getElem?_append_left (by omega)] at hy
            have y0 := R8.2 i y hy
            refine ⟨?_, ?_⟩
            · rw [ms_k (by decide), ms_k (by decide), ms_j zz]; exact y0.1
            · rw [ms_k (by decide), ms_j zz, ms_k (by decide)]; exact y0.2
  · unfold fSee at k
    rw [gi_none (by omega) e] at k
    exact k N R
theorem y_forget {post : Int32 → Mem → Prop} (R : RM s N) (k : ∀ N', RM (fForget s).2 N' → post (fForget s).1 N') : P_MD_forget N post := by
  unfold P_MD_forget B_MD_forget_i
  simp only [forall_eq]
  rw [R.2.2.2.2.2.1]
  refine k _ (rm_seen R (fun q i h1 h2 h3 => ?_) ⟨ms_s _ _ _ _, fun i y hy => by cases hy⟩)
  by_cases q0 : q = 0
  · subst q0; rw [ms_j (h1 rfl)]
  · rw [ms_k q0]
theorem y_keep {post : Int32 → Mem → Prop} (I : IX T s) (R : RM s N) (k : ∀ N', RM (fKeep s).2 N' → post (fKeep s).1 N') : P_MD_keep N post := by
  have h7 := I.1.1
  have hu := I.2.2.2.2.2.1
  have hk := I.2.2.2.2.2.2.1
  obtain ⟨R1, R2, ⟨R3, R4⟩, ⟨R5, R6⟩, R7, R8⟩ := id R
  unfold P_MD_keep B_MD_keep_i
  unfold fKeep at k
  rw [R5]
  by_cases c : (xK s).length = 2
  · rw [if_pos c] at k
    exact brn_t (by rw [c]; rfl) (k N R)
  · rw [if_neg c] at k
    refine brn_f (fun z => c (nI_inj (b := 2) (by omega) (by decide) z)) ?_
    rw [show (102 : Int32) = nI 102 from rfl, a51]
    refine m_copy0 (p := 0) (q := 102 + 51 * (xK s).length) (by decide) (by omega) (Or.inl (by omega)) (fun N2 q2 f => ?_)
    simp only [forall_eq]
    rw [f.1 0 (by decide), R5, nI_1, ms_s]
    have g1 : ∀ i, (i < 102 + 51 * (xK s).length ∨ 102 + 51 * (xK s).length + 51 ≤ i) → mset N2 0 2 (nI ((xK s).length + 1)) 1 i = N 1 i := fun i hi => by rw [ms_k (by decide)]; exact f.2 i hi
    have g2 : ∀ q, 2 ≤ q → mset N2 0 2 (nI ((xK s).length + 1)) q = N q := fun q hq => by rw [mset_ne (by omega), f.1 q (by omega)]
    have g0 : ∀ i, i ≠ 2 → mset N2 0 2 (nI ((xK s).length + 1)) 0 i = N 0 i := fun i hi => by rw [ms_j hi, f.1 0 (by decide)]
    refine k _ ⟨R1.of (g0 3 (by decide)) (fun q h1 _ => g2 q h1), R2.of h7 (fun i _ hi => g1 i (by omega)), ⟨by rw [g0 1 (by decide)]; exact R3, fun i h hh => ?_⟩, ⟨?_, fun i h hh => ?_⟩, ?_, ?_⟩
    · exact (R4 i h hh).of h7 (fun j z1 z2 => g1 j (by omega))
    · show _ = nI (xK s ++ [xH s]).length
      rw [List.length_append, ms_s]; rfl
    · have hh : (xK s ++ [xH s])[i]? = some h := hh
      have hi : i < (xK s ++ [xH s]).length := (List.getElem?_eq_some_iff.mp hh).1
      rw [List.length_append] at hi
      have hi : i < (xK s).length + 1 := hi
      by_cases z : i = (xK s).length
      · subst z
        rw [List.getElem?_append_right (Nat.le_refl _), Nat.sub_self] at hh
        cases hh
        refine R2.mv h7 (fun j hj => ?_)
        rw [ms_k (by decide), q2 j hj]
      · rw [List.getElem?_append_left (by omega)] at hh
        exact (R6 i h hh).of h7 (fun j z1 z2 => g1 j (by omega))
    · show TM _ (xX s)
      unfold TM; rw [g0 12 (by decide), g2 8 (by decide)]; exact R7
    · show NM _ (xE s)
      unfold NM; rw [g0 8 (by decide), g2 6 (by decide), g2 7 (by decide)]; exact R8
theorem y_back {post : Int32 → Mem → Prop} (I : IX T s) (R : RM s N) (k : ∀ N', RM (fBack s).2 N' → post (fBack s).1 N') : P_MD_back N post := by
  have h7 := I.1.1
  have hk := I.2.2.2.2.2.2.1
  obtain ⟨R1, R2, ⟨R3, R4⟩, ⟨R5, R6⟩, R7, R8⟩ := id R
  unfold P_MD_back B_MD_back_i
  unfold fBack at k
  rw [R5]
  rcases List.eq_nil_or_concat (xK s) with e | ⟨l0, x, e⟩
  · rw [e] at k ⊢
    exact brn_t rfl (k N R)
  · have e : xK s = l0 ++ [x] := by rw [e, List.concat_eq_append]
    have hl : (xK s).length = l0.length + 1 := by rw [e, List.length_append]; rfl
    rw [e, List.getLast?_append, List.dropLast_concat] at k
    simp only [List.getLast?_singleton, Option.some_or] at k
    have e2 : nI (xK s).length - 1 = nI l0.length := by rw [hl]; exact nI_pred _
    refine brn_f (fun z => ?_) ?_
    · have := nI_inj (b := 0) (by omega) (by decide) z
      omega
    · rw [e2]
      simp only [forall_eq]
      rw [ms_s, show (102 : Int32) = nI 102 from rfl, a51]
      refine m_copy0 (p := 102 + 51 * l0.length) (q := 0) (by omega) (by decide) (Or.inr (by omega)) (fun N2 q2 f => ?_)
      have e01 : N2 0 2 = nI l0.length := by rw [f.1 0 (by decide), ms_s]
      rw [ms_j (by decide), e01]
      have hx := R6 l0.length x (by rw [e, List.getElem?_append_right (Nat.le_refl _), Nat.sub_self]; rfl)
      have g1 : ∀ i, 51 ≤ i → mset N2 0 1 0 1 i = N 1 i := fun i hi => by rw [ms_k (by decide), f.2 i (by omega), ms_k (by decide)]
      have g2 : ∀ q, 2 ≤ q → mset N2 0 1 0 q = N q := fun q hq => by rw [mset_ne (by omega), f.1 q (by omega), mset_ne (by omega)]
      have g0 : ∀ i, i ≠ 1 → i ≠ 2 → mset N2 0 1 0 0 i = N 0 i := fun i h1 h2 => by rw [ms_j h1, f.1 0 (by decide), ms_j h2]
      refine k _ ⟨R1.of (g0 3 (by decide) (by decide)) (fun q h1 _ => g2 q h1), ?_, ⟨ms_s _ _ _ _, fun i h hh => by cases hh⟩, ⟨by rw [ms_j (by decide)]; exact e01, fun i h hh => ?_⟩, ?_, ?_⟩
      · exact hx.mv h7 (fun j hj => by rw [ms_k (by decide), q2 j hj, ms_k (by decide)])
      · have hi : i < l0.length := (List.getElem?_eq_some_iff.mp hh).1
        exact (R6 i h (by rw [e, List.getElem?_append_left hi]; exact hh)).of h7 (fun j z1 z2 => g1 j (by omega))
      · show TM _ (xX s)
        unfold TM; rw [g0 12 (by decide) (by decide), g2 8 (by decide)]; exact R7
      · show NM _ (xE s)
        unfold NM; rw [g0 8 (by decide) (by decide), g2 6 (by decide), g2 7 (by decide)]; exact R8
theorem y_count {p : Int32} {post : Int32 → Mem → Prop} (I : IX T s) (R : RM s N) (k : ∀ N', RM (fCount s p).2 N' → post (fCount s p).1 N') : P_MD_count N p post := by
  have h7 := I.1.1
  obtain ⟨R1, R2, ⟨R3, R4⟩, ⟨R5, R6⟩, R7, R8⟩ := id R
  have k := k N R
  unfold P_MD_count B_MD_count_i
  unfold fCount at k
  rw [show (0 : Int32).toNatClampNeg = 0 from rfl, show (1 : Int32).toNatClampNeg = 1 from rfl, R1.1, show N 1 0 = nI (hT (xH s)) from R2.1, show N 1 1 = oI (hC (xH s)) from R2.2.1, R3, R5, R7.1, R8.1]
  refine ⟨fun c => ?_, fun c => ⟨vin (n := 0) (by decide) (by decide), ?_⟩, fun c => ?_, fun c => ?_, fun c => ?_, fun c => ?_, fun c => ⟨vin (n := 1) (by decide) (by decide), ?_⟩, fun c => ?_, fun c => ?_, fun c => ?_, fun c => ?_, fun c => ?_, fun c => ?_, fun c0 c1 c2 c3 c4 c5 c6 c7 c8 c9 c10 c11 c12 => ?_⟩
  · subst c; exact k
  · subst c; exact k
  · subst c; exact m_many (r := 0) (w := 0) R1.1 h7 R2 (by decide) (hw31 I) (by decide) k
  · subst c; exact m_many (r := 0) (w := 1) R1.1 h7 R2 (by decide) (hw31 I) (by decide) k
  · subst c; exact m_many (r := 0) (w := 2) R1.1 h7 R2 (by decide) (hw31 I) (by decide) k
  · subst c; exact m_many (r := 0) (w := 3) R1.1 h7 R2 (by decide) (hw31 I) (by decide) k
  · subst c; exact k
  · subst c; exact m_coins (r := 0) R1.1 h7 R2 (by decide) k
  · subst c; exact m_todo R1.1 h7 R2 k
  · subst c; exact k
  · subst c; exact k
  · subst c; exact k
  · subst c; exact k
  · rw [if_neg c0, if_neg c1, if_neg c2, if_neg c3, if_neg c4, if_neg c5, if_neg c6, if_neg c7, if_neg c8, if_neg c9, if_neg c10, if_neg c11, if_neg c12] at k; exact k
end
