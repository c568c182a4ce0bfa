theorem clrI : ∀ t, t < 128 → ∀ j, j < 7 → nI t &&& (((1 : Int32) <<< (nI j &&& 31)) ^^^ (-1)) = nI (t &&& (127 ^^^ 2 ^ j)) := by decide +kernel
theorem clrB : ∀ t, t < 128 → ∀ j, j < 7 → (t &&& (127 ^^^ 2 ^ j)) < 128 ∧ ∀ e, e < 7 → ((t &&& (127 ^^^ 2 ^ j)) / 2 ^ e % 2 = 1 ↔ (t / 2 ^ e % 2 = 1 ∧ e ≠ j)) := by decide +kernel
theorem setB : ∀ t, t < 128 → ∀ j, j < 7 → (t ||| 2 ^ j) < 128 ∧ ∀ e, e < 7 → ((t ||| 2 ^ j) / 2 ^ e % 2 = 1 ↔ (t / 2 ^ e % 2 = 1 ∨ e = j)) := by decide +kernel
/-- a set of numbers below 7, as bits -/
def BT (v : Int32) (p : List Nat) : Prop := ∃ t, t < 128 ∧ v = nI t ∧ ∀ e, e < 7 → (t / 2 ^ e % 2 = 1 ↔ e ∈ p)
theorem BT.clr {v : Int32} {p : List Nat} {j : Nat} (b : BT v (p ++ [j])) (hj : j < 7) (hn : j ∉ p) : BT (v &&& (((1 : Int32) <<< (nI j &&& 31)) ^^^ (-1))) p := by
  obtain ⟨t, h1, rfl, h2⟩ := b
  obtain ⟨c1, c2⟩ := clrB t h1 j hj
  refine ⟨_, c1, clrI t h1 j hj, fun e he => ?_⟩
  rw [c2 e he, h2 e he, List.mem_append, List.mem_singleton]
  exact ⟨fun z => z.1.resolve_right z.2, fun z => ⟨Or.inl z, fun y => hn (by rw [← y]; exact z)⟩⟩
theorem BT.set {v : Int32} {p : List Nat} {j : Nat} (b : BT v p) (hj : j < 7) : BT (v ||| ((1 : Int32) <<< (nI j &&& 31))) (p ++ [j]) := by
  obtain ⟨t, h1, rfl, h2⟩ := b
  obtain ⟨c1, c2⟩ := setB t h1 j hj
  refine ⟨_, c1, by rw [shlb j (by omega), or_nI], fun e he => ?_⟩
  rw [c2 e he, h2 e he, List.mem_append, List.mem_singleton]
theorem BT.has {v : Int32} {p : List Nat} {j : Nat} (b : BT v p) (hj : j < 7) : ((v >>> (nI j &&& 31)) &&& 1) = 1 ↔ j ∈ p := by
  obtain ⟨t, h1, rfl, h2⟩ := b
  rw [tb_has (by omega) hj, h2 j hj]
def lo (P : PT) (h : HT) (e : Nat) : Nat := (bkd P h).getD e 0
def ow (P : PT) (h : HT) (b : Option (List Nat)) (g : Nat) : Option Nat := match b with
  | none => none
  | some q => if hW h g = 0 then some (lo P h (q.getD ((bkd P h).idxOf g) 0)) else none
theorem lo_n {P : PT} {h : HT} {e : Nat} (he : e < (bkd P h).length) : lo P h e < pN P ∧ hW h (lo P h e) = 0 ∧ (bkd P h)[e]? = some (lo P h e) := by
  have := bkd_mem.mp (mem_getD (d := 0) he)
  refine ⟨this.1, this.2, ?_⟩
  unfold lo
  rw [List.getD_eq_getElem?_getD, List.getElem?_eq_getElem he]; rfl
theorem bk7 {P : PT} (pw : PW P) (h : HT) : (bkd P h).length ≤ 7 := by
  have := List.length_filter_le (fun g => decide (hW h g = 0)) (List.range (pN P))
  rw [List.length_range] at this
  have := pw.1
  unfold bkd
  omega
theorem idx_nd : ∀ (l : List Nat) (e g : Nat), l.Nodup → l[e]? = some g → l.idxOf g = e
  | [], _, _, _, h => by cases h
  | a :: l, 0, g, _, h => by cases h; rw [List.idxOf_cons]; simp
  | a :: l, e + 1, g, n, h => by
    have n' := List.nodup_cons.mp n
    have h : l[e]? = some g := h
    have ne : ¬ a = g := fun z => n'.1 (by rw [z]; exact List.mem_of_getElem? h)
    have hb : (a == g) = false := beq_false_of_ne ne
    rw [List.idxOf_cons, idx_nd l e g n'.2 h, hb]
    rfl
/-- what stands while dealing -/
def DSt (P : PT) (h : HT) (nr : Nat) (l : List Nat) (M0 M : Mem) : Prop := PR M 4 P ∧ HR M 18 (pN P) h ∧ M 124 6 = nI (bkd P h).length ∧ (∀ e g : Nat, (bkd P h)[e]? = some g → M 125 e = nI g) ∧ M 124 8 = nI nr ∧ M 136 6 = nI l.length ∧ (∀ i x : Nat, l[i]? = some x → M 137 i = nI x) ∧ (∀ q, (q < 124 ∨ 142 ≤ q) → M q = M0 q) ∧ M 124 10 = 0
theorem DSt.of {P : PT} {h : HT} {nr : Nat} {l : List Nat} {M0 M M' : Mem} (D : DSt P h nr l M0 M) (e : ∀ q, (q < 124 ∨ q = 125 ∨ q = 137 ∨ 142 ≤ q) → M' q = M q) (e4 : ∀ i, i = 6 ∨ i = 8 ∨ i = 10 → M' 124 i = M 124 i) (e6 : M' 136 6 = M 136 6) : DSt P h nr l M0 M' := by
  obtain ⟨d1, d2, d3, d4, d5, d6, d7, d8, d9⟩ := D
  refine ⟨d1.of (fun q _ _ => e q (by omega)), d2.of (fun q _ _ => e q (by omega)), by rw [e4 6 (by omega)]; exact d3, by rw [e 125 (by omega)]; exact d4, by rw [e4 8 (by omega)]; exact d5, by rw [e6]; exact d6, by rw [e 137 (by omega)]; exact d7, fun q hq => (e q (by omega)).trans (d8 q hq), by rw [e4 10 (by omega)]; exact d9⟩
section
variable {P : PT} {h : HT} {nr : Nat} {l : List Nat} {M0 M : Mem}
/-- where the search stands with the last pick -/
def CS (P : PT) (h : HT) (M : Mem) (d : Nat) (pre : List Nat) (k : Nat) : Prop := (k = 0 ∧ M 126 d = -1 ∧ BT (M 124 7) pre) ∨ ∃ j, k = j + 1 ∧ M 126 d = nI j ∧ j ∉ pre ∧ j < (bkd P h).length ∧ BT (M 124 7) (pre ++ [j])
def FPk (d : Nat) (M M' : Mem) : Prop := (∀ q, q ≠ 124 → q ≠ 126 → q ≠ 131 → M' q = M q) ∧ (∀ i, i ≠ 7 → M' 124 i = M 124 i) ∧ ∀ i, i ≠ d → M' 126 i = M 126 i
def DP (m : Nat) (M : Mem) : Prop := ∀ e, m ≤ e → e < 7 → M 126 e = -1
theorem s_place_t {M : Mem} {n i : Nat} {post : Int32 → Mem → Prop} (e6 : M 124 6 = nI n) (h7 : n ≤ 7) (hi : i < n) (k : post 1 M) : P_Dealing_isPlace M (nI i) post := by
  unfold P_Dealing_isPlace B_Dealing_isPlace_i
  rw [e6]
  exact br_f (nI_pos (by omega)) (br_f (nI_ge hi (by omega)) (br_f (nI_ge (b := 7) (by omega) (by decide)) k))
theorem s_place_f {M : Mem} {n i : Nat} {post : Int32 → Mem → Prop} (e6 : M 124 6 = nI n) (hi : n ≤ i) (h31 : i < 2 ^ 31) (k : post 0 M) : P_Dealing_isPlace M (nI i) post := by
  unfold P_Dealing_isPlace B_Dealing_isPlace_i
  rw [e6]
  exact br_f (nI_pos h31) (br_t (nI_le hi h31) k)
theorem s_place_n {M : Mem} {v : Int32} {post : Int32 → Mem → Prop} (hv : v < 0) (k : post 0 M) : P_Dealing_isPlace M v post := br_t hv k
theorem s_pick {d k : Nat} {pre : List Nat} {f : Nat → Nat} {post : Int32 → Mem → Prop} (pw : PW P) (D : DSt P h nr l M0 M) (C : CS P h M d pre k) (hd : d < (bkd P h).length) (hk : k ≤ (bkd P h).length) (H : HR M 128 (pN P) (sRR h f)) (k1 : ∀ k', k ≤ k' → k' < (bkd P h).length → k' ∉ pre → (∀ i, k ≤ i → i < k' → i ∈ pre) → ∀ M', FPk d M M' → M' 126 d = nI k' → BT (M' 124 7) (pre ++ [k']) → HR M' 128 (pN P) (sRR h (va_up f (lo P h d) (hR h (lo P h k')))) → post 1 M') (k0 : (∀ i, k ≤ i → i < (bkd P h).length → i ∈ pre) → ∀ M', FPk d M M' → M' 126 d = -1 → BT (M' 124 7) pre → HR M' 128 (pN P) (sRR h (va_up f (lo P h d) nr)) → post 0 M') : P_Dealing_pickNext M (nI d) 18 post := by
  have m7 := bk7 pw h
  have h7 := pw.1
  intro R44 R72 k44 k72
  have key : ∀ M1, FPk d M M1 → BT (M1 124 7) pre → HR M1 128 (pN P) (sRR h f) → ∀ i, i ≤ (bkd P h).length → k ≤ i → (∀ i', k ≤ i' → i' < i → i' ∈ pre) → R44 M1 (nI i) := by
    intro M1 F B H1
    obtain ⟨d1, d2, d3, d4, d5, d6, d7, d8, d9⟩ := D
    have e6 : M1 124 6 = nI (bkd P h).length := (F.2.1 6 (by decide)).trans d3
    have e8 : M1 124 8 = nI nr := (F.2.1 8 (by decide)).trans d5
    have e5 : ∀ e, e < (bkd P h).length → M1 125 e = nI (lo P h e) := fun e he => by rw [F.1 125 (by decide) (by decide) (by decide)]; exact d4 e _ (lo_n he).2.2
    have en : M1 4 6 = nI (pN P) := by rw [F.1 4 (by decide) (by decide) (by decide)]; exact d1.1
    have e18 : HR M1 18 (pN P) h := d2.of (fun q _ _ => F.1 q (by omega) (by omega) (by omega))
    obtain ⟨ld1, ld2, ld3⟩ := lo_n hd
    have fin72 : ∀ i, i ≤ (bkd P h).length → k ≤ i → (∀ i', k ≤ i' → i' < i → i' ∈ pre) → (i < (bkd P h).length → i ∉ pre) → R72 M1 (nI i) := by
      intro i hi hki hall hno
      apply k72
      unfold B_Dealing_pickNext_72
      by_cases c : i < (bkd P h).length
      · obtain ⟨li1, li2, li3⟩ := lo_n c
        refine s_place_t e6 m7 c (brn_f (by decide) ⟨vin (by omega) (by decide), ?_⟩)
        simp (disch := omega) only [cl, forall_eq, ms_k, e5 i c, e5 d hd]
        have HH : ∀ a, (a + 8 ≤ 124 ∨ 127 ≤ a) → ∀ x, HR M1 a (pN P) x → HR (mset (mset M1 126 d (nI i)) 124 7 (M1 124 7 ||| 1 <<< (nI i &&& 31))) a (pN P) x := fun a ha x q => q.of (fun q _ _ => by rw [mset_ne (by omega), mset_ne (by omega)])
        have en2 : mset (mset M1 126 d (nI i)) 124 7 (M1 124 7 ||| 1 <<< (nI i &&& 31)) 4 6 = nI (pN P) := by rw [mset_ne (by decide), mset_ne (by decide)]; exact en
        refine ⟨vin (by omega) (by decide), vin (by omega) (by decide), s_roomOf en2 h7 (HH 18 (by decide) h e18) li1 (s_giveRoom en2 h7 ld1 ?_)⟩
        show post 1 (mset (mset (mset M1 126 d (nI i)) 124 7 (M1 124 7 ||| 1 <<< (nI i &&& 31))) 131 (lo P h d) (nI (hR h (lo P h i))))
        refine k1 i hki c (hno c) hall _ ⟨fun q h1 h2 h3 => ?_, fun j hj => ?_, fun j hj => ?_⟩ ?_ ?_ (HR.sR (g := lo P h d) (x := hR h (lo P h i)) (HH 128 (by decide) _ H1))
        · rw [mset_ne h3, mset_ne h1, mset_ne h2]; exact F.1 q h1 h2 h3
        · rw [ms_k (by decide), ms_j hj, ms_k (by decide)]; exact F.2.1 j hj
        · rw [ms_k (by decide), ms_k (by decide), ms_j hj]; exact F.2.2 j hj
        · rw [ms_k (by decide), ms_k (by decide), ms_s]
        · rw [ms_k (by decide), ms_s]
          exact B.set (by omega)
      · have : i = (bkd P h).length := by omega
        subst this
        refine s_place_f e6 (Nat.le_refl _) (by omega) (brn_t rfl ⟨vin (by omega) (by decide), ?_⟩)
        simp (disch := omega) only [cl, forall_eq, ms_k, e5 d hd, e8]
        have HH : HR (mset M1 126 d (-1)) 128 (pN P) (sRR h f) := H1.of (fun q _ _ => mset_ne (by omega))
        refine ⟨vin (by omega) (by decide), s_giveRoom (n := pN P) (by rw [mset_ne (by decide)]; exact en) h7 ld1 ?_⟩
        show post 0 (mset (mset M1 126 d (-1)) 131 (lo P h d) (nI nr))
        refine k0 hall _ ⟨fun q h1 h2 h3 => ?_, fun j hj => ?_, fun j hj => ?_⟩ ?_ ?_ (HR.sR (g := lo P h d) (x := nr) HH)
        · rw [mset_ne h3, mset_ne h2]; exact F.1 q h1 h2 h3
        · rw [ms_k (by decide), ms_k (by decide)]; exact F.2.1 j hj
        · rw [ms_k (by decide), ms_j hj]; exact F.2.2 j hj
        · rw [ms_k (by decide), ms_s]
        · rw [ms_k (by decide), ms_k (by decide)]; exact B
    refine up_loop (fun i hi ih hki hall => ?_) (fun hki hall => ?_)
    · apply k44
      unfold B_Dealing_pickNext_44
      rw [e6]
      refine br_f (nI_ge hi (by omega)) ?_
      by_cases c : i ∈ pre
      · refine brn_t ((B.has (by omega)).mpr c) ?_
        simp only [forall_eq, nI_1]
        exact ih (by omega) (fun i' h1 h2 => by
          by_cases z : i' = i
          · rw [z]; exact c
          · exact hall i' h1 (by omega))
      · exact brn_f (fun z => c ((B.has (by omega)).mp z)) (fin72 i (by omega) hki hall (fun _ => c))
    · apply k44
      unfold B_Dealing_pickNext_44
      rw [e6]
      exact br_t (nI_le (Nat.le_refl _) (by omega)) (fin72 _ (Nat.le_refl _) hki hall (fun z => absurd z (Nat.lt_irrefl _)))
  unfold B_Dealing_pickNext_i
  refine s_place_t D.2.2.1 m7 hd (brn_f (by decide) ⟨vin (by omega) (by decide), ?_⟩)
  rw [cl (by omega)]
  simp only [forall_eq]
  have F0 : FPk d M M := ⟨fun _ _ _ _ => rfl, fun _ _ => rfl, fun _ _ => rfl⟩
  rcases C with ⟨c1, c2, c3⟩ | ⟨j, c1, c2, c3, c4, c5⟩
  · subst c1
    rw [c2]
    refine s_place_n (by decide) (br_t rfl ?_)
    rw [show (-1 : Int32) + 1 = nI 0 from by decide]
    exact key M F0 c3 H 0 (Nat.zero_le _) (Nat.le_refl _) (fun i' _ h2 => absurd h2 (Nat.not_lt_zero _))
  · subst c1
    rw [c2]
    refine s_place_t D.2.2.1 m7 c4 (br_f (by decide) ?_)
    rw [nI_1]
    refine key _ ⟨fun q h1 _ _ => mset_ne h1, fun i hi => ms_j hi, fun i _ => ms_k (by decide)⟩ ?_ (H.of (fun q _ _ => mset_ne (by omega))) (j + 1) hk (Nat.le_refl _) (fun i' h1 h2 => by omega)
    rw [ms_s]
    exact c5.clr (by omega) c3
theorem s_write {q : List Nat} {post : Mem → Prop} (pw : PW P) (D : DSt P h nr l M0 M) (hq : q.length = (bkd P h).length) (hx : ∀ x, x ∈ q → x < (bkd P h).length) (e6 : ∀ e x : Nat, q[e]? = some x → M 126 e = nI x) (hb : ∀ g, g < pN P → ¬ hW h g = 0 → M 127 g = oI none) (k : ∀ M', (∀ r, r ≠ 127 → M' r = M r) → (∀ g, g < pN P → M' 127 g = oI (ow P h (some q) g)) → post M') : P_Dealing_writeDown M post := by
  have m7 := bk7 pw h
  have h7 := pw.1
  intro R2 k2
  obtain ⟨d1, d2, d3, d4, d5, d6, d7, d8, d9⟩ := D
  have L : ∀ i, i ≤ (bkd P h).length → ∀ M1, (∀ r, r ≠ 127 → M1 r = M r) → (∀ g, g < pN P → ¬ hW h g = 0 → M1 127 g = oI none) → (∀ e, e < i → M1 127 (lo P h e) = nI (lo P h (q.getD e 0))) → R2 M1 (nI i) := by
    refine up_loop (fun i hi ih M1 F nb' w => ?_) (fun M1 F nb' w => ?_)
    · have hiq : i < q.length := by omega
      have eq : q.getD i 0 = q[i] := by rw [List.getD_eq_getElem?_getD, List.getElem?_eq_getElem hiq]; rfl
      have hxi : q.getD i 0 < (bkd P h).length := hx _ (mem_getD hiq)
      obtain ⟨li1, li2, li3⟩ := lo_n hi
      obtain ⟨lq1, lq2, lq3⟩ := lo_n hxi
      have f6 : M1 126 i = nI (q.getD i 0) := by rw [F 126 (by decide), eq]; exact e6 i _ (List.getElem?_eq_getElem hiq)
      have f5 : M1 125 i = nI (lo P h i) := by rw [F 125 (by decide)]; exact d4 i _ li3
      have f5q : M1 125 (q.getD i 0) = nI (lo P h (q.getD i 0)) := by rw [F 125 (by decide)]; exact d4 _ _ lq3
      apply k2
      unfold B_Dealing_writeDown_2
      rw [F 124 (by decide), d3]
      refine br7_f hi m7 ⟨vin (by omega) (by decide), ?_⟩
      rw [cl (by omega), f5]
      refine s_has_t (n := pN P) (by rw [F 4 (by decide)]; exact d1.1) h7 li1 (br_f (by decide) ⟨vin (by omega) (by decide), ?_⟩)
      rw [f6]
      refine s_place_t (n := (bkd P h).length) (by rw [F 124 (by decide)]; exact d3) m7 hxi (br_f (by decide) ?_)
      simp (disch := omega) only [cl, forall_eq, f5, f6, f5q, nI_1]
      refine ⟨vin (by omega) (by decide), vin (by omega) (by decide), vin (by omega) (by decide), vin (by omega) (by decide), ih _ (fun r hr => by rw [mset_ne hr]; exact F r hr) (fun g hg hw => ?_) (fun e he => ?_)⟩
      · rw [ms_j (fun z => hw (by rw [z]; exact li2))]; exact nb' g hg hw
      · by_cases z : e = i
        · subst z; exact ms_s _ _ _ _
        · obtain ⟨le1, le2, le3⟩ := lo_n (P := P) (h := h) (e := e) (by omega)
          rw [ms_j (fun y => z ?_)]
          · exact w e (by omega)
          · rw [y] at le3
            rw [← idx_nd _ _ _ (bkd_nd P h) le3, idx_nd _ _ _ (bkd_nd P h) li3]
    · apply k2
      unfold B_Dealing_writeDown_2
      rw [F 124 (by decide), d3]
      refine br7_e m7 (k M1 F (fun g hg => ?_))
      by_cases c : hW h g = 0
      · obtain ⟨e, he⟩ := List.getElem?_of_mem (bkd_mem.mpr ⟨hg, c⟩)
        have hel := (List.getElem?_eq_some_iff.mp he).1
        have el : lo P h e = g := by
          have := (lo_n hel).2.2
          rw [he] at this
          exact (Option.some.inj this).symm
        unfold ow
        simp only
        rw [if_pos c, idx_nd _ _ _ (bkd_nd P h) he]
        have := w e hel
        rw [el] at this
        exact this
      · unfold ow
        simp only
        rw [if_neg c]; exact nb' g hg c
  unfold B_Dealing_writeDown_i
  simp only [forall_eq]
  exact L 0 (Nat.zero_le _) M (fun _ _ => rfl) hb (fun e he => absurd he (Nat.not_lt_zero _))
end
