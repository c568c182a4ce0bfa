theorem iminN {x y : Nat} (hx : x < 2 ^ 31) (hy : y < 2 ^ 31) : imin (nI x) (nI y) = nI (min x y) := by
  unfold imin
  by_cases c : y < x
  · rw [if_pos (nI_lt c hx), Nat.min_eq_right (by omega)]
  · rw [if_neg (nI_nlt (by omega) hy), Nat.min_eq_left (by omega)]
def nrI (h : HT) : Nat → Nat
  | 0 => 1000000
  | i + 1 => if hW h i = 0 then min (nrI h i) (hR h i) else nrI h i
def bkI (h : HT) (i : Nat) : List Nat := (List.range i).filter (fun g => decide (hW h g = 0))
theorem bkI_s (h : HT) (i : Nat) : bkI h (i + 1) = if hW h i = 0 then bkI h i ++ [i] else bkI h i := by
  unfold bkI
  rw [List.range_succ, List.filter_append]
  by_cases c : hW h i = 0
  · rw [if_pos c, List.filter_cons_of_pos (by rw [decide_eq_true_iff]; exact c), List.filter_nil]
  · rw [if_neg c, List.filter_cons_of_neg (by rw [decide_eq_true_iff]; exact c), List.filter_nil, List.append_nil]
theorem nrI_le (h : HT) : ∀ i g, g < i → hW h g = 0 → nrI h i ≤ hR h g
  | i + 1, g, hg, hw => by
    unfold nrI
    by_cases c : g = i
    · subst c; rw [if_pos hw]; omega
    · have := nrI_le h i g (by omega) hw
      split <;> omega
theorem nrI_b (h : HT) : ∀ i, nrI h i ≤ 1000000
  | 0 => Nat.le_refl _
  | i + 1 => by
    unfold nrI
    have := nrI_b h i
    split <;> omega
def fDeal (s : ST) (p : Int32) : Int32 × ST := if p = -1 then (wh (dlT (xP s) (xH s)), s) else match gi (pN (xP s)) p with
  | none => (-1, s)
  | some g => (oI (dlO (xP s) (xH s) g), s)
section
variable {P : PT} {h : HT} {M : Mem}
def FB (M M' : Mem) : Prop := (∀ q, q ≠ 124 → q ≠ 125 → q ≠ 126 → q ≠ 127 → q ≠ 131 → M' q = M q) ∧ ∀ i, i ≠ 6 → i ≠ 7 → i ≠ 8 → M' 124 i = M 124 i
theorem FB.set {M M1 : Mem} {q i : Nat} {x : Int32} (a : FB M M1) (h : q = 125 ∨ q = 126 ∨ q = 127 ∨ q = 131 ∨ (q = 124 ∧ (i = 6 ∨ i = 7 ∨ i = 8))) : FB M (mset M1 q i x) := ⟨fun r h1 h2 h3 h4 h5 => by rw [mset_ne (by omega)]; exact a.1 r h1 h2 h3 h4 h5, fun j h1 h2 h3 => by rw [ms_n (by omega)]; exact a.2 j h1 h2 h3⟩
theorem s_dbegin {post : Mem → Prop} (hP : PR M 4 P) (pw : PW P) (hh : HR M 128 (pN P) h) (v : GV P h) (k : ∀ M' f, HR M' 128 (pN P) (sRR h f) → FP P h (nrI h (pN P)) [] f → M' 124 6 = nI (bkd P h).length → (∀ e g : Nat, (bkd P h)[e]? = some g → M' 125 e = nI g) → M' 124 8 = nI (nrI h (pN P)) → M' 124 7 = 0 → (∀ g, g < pN P → M' 127 g = -4) → DP 0 M' → FB M M' → post M') : P_Dealing_begin M post := by
  have h7 := pw.1
  have m7 := bk7 pw h
  intro R18 R112 k18 k112
  have fin : ∀ e, e ≤ 7 → ∀ M1 f, HR M1 128 (pN P) (sRR h f) → (∀ e', e' < e → e' < (bkd P h).length → f (lo P h e') = nrI h (pN P)) → (∀ g, ¬ hW h g = 0 → f g = hR h g) → M1 124 6 = nI (bkd P h).length → (∀ e g : Nat, (bkd P h)[e]? = some g → M1 125 e = nI g) → M1 124 8 = nI (nrI h (pN P)) → M1 124 7 = 0 → (∀ g, g < pN P → M1 127 g = -4) → (∀ e', e' < e → M1 126 e' = -1) → FB M M1 → R112 M1 (nI e) := by
    refine up_loop (fun e he ih M1 f H f1 f2 e6 e5 e8 e7 e27 e26 F => ?_) (fun M1 f H f1 f2 e6 e5 e8 e7 e27 e26 F => ?_)
    · have en : M1 4 6 = nI (pN P) := by rw [F.1 4 (by decide) (by decide) (by decide) (by decide) (by decide)]; exact hP.1
      have n26 : ∀ e', e' < e + 1 → mset M1 126 e (-1) 126 e' = -1 := fun e' he' => by
        by_cases z : e' = e
        · rw [z, ms_s]
        · rw [ms_j z]; exact e26 e' (by omega)
      have HH : HR (mset M1 126 e (-1)) 128 (pN P) (sRR h f) := H.of (fun q _ _ => mset_ne (by omega))
      apply k112
      unfold B_Dealing_begin_112
      refine br_f (nI_ge (b := 7) he (by decide)) ⟨vin (by omega) (by decide), ?_⟩
      simp (disch := omega) only [cl, forall_eq, nI_1]
      by_cases c : e < (bkd P h).length
      · obtain ⟨l1, l2, l3⟩ := lo_n c
        refine s_place_t (n := (bkd P h).length) (by rw [ms_k (by decide)]; exact e6) m7 c (br_f (by decide) ⟨vin (by omega) (by decide), ?_⟩)
        simp (disch := omega) only [ms_k, e5 e _ l3, e8]
        refine s_giveRoom (n := pN P) (by rw [ms_k (by decide)]; exact en) h7 l1 ?_
        show R112 (mset (mset M1 126 e (-1)) 131 (lo P h e) (nI (nrI h (pN P)))) (nI (e + 1))
        refine ih _ (va_up f (lo P h e) (nrI h (pN P))) (HR.sR (g := lo P h e) (x := nrI h (pN P)) HH) (fun e' he' hl' => ?_) (fun g hw => ?_) ?_ ?_ ?_ ?_ ?_ (fun e' he' => ?_) ((F.set (by omega)).set (by omega))
        · by_cases z : e' = e
          · subst z; exact up_s _ _ _
          · obtain ⟨m1, m2, m3⟩ := lo_n (P := P) (h := h) (e := e') hl'
            rw [up_n (fun y => z ?_)]
            · exact f1 e' (by omega) hl'
            · rw [y] at m3
              rw [← idx_nd _ _ _ (bkd_nd P h) m3, idx_nd _ _ _ (bkd_nd P h) l3]
        · rw [up_n (fun z => hw (by rw [z]; exact l2))]; exact f2 g hw
        · rw [ms_k (by decide), ms_k (by decide)]; exact e6
        · rw [mset_ne (by decide), mset_ne (by decide)]; exact e5
        · rw [ms_k (by decide), ms_k (by decide)]; exact e8
        · rw [ms_k (by decide), ms_k (by decide)]; exact e7
        · rw [mset_ne (by decide), mset_ne (by decide)]; exact e27
        · rw [ms_k (by decide)]; exact n26 e' he'
      · refine s_place_f (n := (bkd P h).length) (by rw [ms_k (by decide)]; exact e6) (by omega) (by omega) (br_t rfl ?_)
        refine ih _ f HH (fun e' he' hl' => f1 e' (by omega) hl') f2 ?_ ?_ ?_ ?_ ?_ n26 (F.set (by omega))
        · rw [ms_k (by decide)]; exact e6
        · rw [mset_ne (by decide)]; exact e5
        · rw [ms_k (by decide)]; exact e8
        · rw [ms_k (by decide)]; exact e7
        · rw [mset_ne (by decide)]; exact e27
    · apply k112
      unfold B_Dealing_begin_112
      refine br_t (nI_le (Nat.le_refl 7) (by decide)) (k M1 f H ⟨fun e g he => ?_, fun g _ hw => f2 g hw⟩ e6 e5 e8 e7 e27 (fun e _ he => e26 e he) F)
      have hel := (List.getElem?_eq_some_iff.mp he).1
      have := (lo_n hel).2.2
      rw [he] at this
      rw [Option.some.inj this]
      exact f1 e (by omega) hel
  have L : ∀ i, i ≤ pN P → ∀ M1, HR M1 128 (pN P) h → M1 124 6 = nI (bkI h i).length → (∀ e g : Nat, (bkI h i)[e]? = some g → M1 125 e = nI g) → M1 124 8 = nI (nrI h i) → M1 124 7 = 0 → (∀ g, g < i → M1 127 g = -4) → FB M M1 → (bkI h i).length ≤ i → R18 M1 (nI i) := by
    refine up_loop (fun i hi ih M1 H e6 e5 e8 e7 e27 F bl => ?_) (fun M1 H e6 e5 e8 e7 e27 F bl => ?_)
    · apply k18
      unfold B_Dealing_begin_18
      have en : M1 4 6 = nI (pN P) := by rw [F.1 4 (by decide) (by decide) (by decide) (by decide) (by decide)]; exact hP.1
      obtain ⟨y1, y2, y3, -⟩ := H.2.2 i hi
      obtain ⟨v1, v2, v3, -⟩ := v.2 i hi
      have bs := bkI_s h i
      have nb1 := nrI_b h i
      rw [en]
      refine br7_f hi h7 ?_
      simp (disch := omega) only [cl, forall_eq, ms_k, nI_1, e6, e8, show M1 129 i = nI (hW h i) from y1, show M1 131 i = nI (hR h i) from y3, ms_j]
      refine ⟨vin (by omega) (by decide), vin (by omega) (by decide), ?_⟩
      by_cases c : hW h i = 0
      · rw [if_pos c] at bs
        refine brn_t (by rw [c]; rfl) (br_f (nI_ge (b := 7) (by omega) (by decide)) ⟨vin (by omega) (by decide), vin (by omega) (by decide), ?_⟩)
        rw [iminN (by omega) (by omega)]
        refine ih _ (H.of (fun q _ _ => by rw [mset_ne (by omega), mset_ne (by omega), mset_ne (by omega), mset_ne (by omega)])) ?_ (fun e g he => ?_) ?_ ?_ (fun g hg => ?_) ((((F.set (by omega)).set (by omega)).set (by omega)).set (by omega)) ?_
        · rw [ms_j (by decide), ms_s, bs, List.length_append, List.length_singleton]
        · rw [mset_ne (by decide), mset_ne (by decide)]
          rw [bs] at he
          by_cases z : e < (bkI h i).length
          · rw [List.getElem?_append_left z] at he
            rw [ms_j (by omega), mset_ne (by decide)]; exact e5 e g he
          · have y := (List.getElem?_eq_some_iff.mp he).1
            rw [List.length_append, List.length_singleton] at y
            have : e = (bkI h i).length := by omega
            subst this
            rw [List.getElem?_append_right (Nat.le_refl _), Nat.sub_self] at he
            cases he
            exact ms_s _ _ _ _
        · rw [ms_s]
          exact (congrArg nI (if_pos c)).symm
        · rw [ms_j (by decide), ms_j (by decide), ms_k (by decide), ms_k (by decide)]; exact e7
        · rw [ms_k (by decide), ms_k (by decide), ms_k (by decide)]
          by_cases z : g = i
          · subst z; exact ms_s _ _ _ _
          · rw [ms_j z]; exact e27 g (by omega)
        · rw [bs, List.length_append, List.length_singleton]; omega
      · rw [if_neg c] at bs
        refine brn_f (fun z => c (nI_inj (b := 0) (by omega) (by decide) z)) (ih _ (H.of (fun q _ _ => mset_ne (by omega))) ?_ ?_ ?_ ?_ (fun g hg => ?_) (F.set (by omega)) (by rw [bs]; omega))
        · rw [ms_k (by decide), bs]; exact e6
        · rw [mset_ne (by decide), bs]; exact e5
        · rw [ms_k (by decide), e8]
          exact (congrArg nI (if_neg c)).symm
        · rw [ms_k (by decide)]; exact e7
        · by_cases z : g = i
          · subst z; exact ms_s _ _ _ _
          · rw [ms_j z]; exact e27 g (by omega)
    · apply k18
      unfold B_Dealing_begin_18
      have en : M1 4 6 = nI (pN P) := by rw [F.1 4 (by decide) (by decide) (by decide) (by decide) (by decide)]; exact hP.1
      rw [en]
      refine br7_e h7 ?_
      simp only [forall_eq]
      exact fin 0 (Nat.zero_le _) M1 (hR h) H (fun e' he' => absurd he' (Nat.not_lt_zero _)) (fun _ _ => rfl) e6 e5 e8 e7 e27 (fun e' he' => absurd he' (Nat.not_lt_zero _)) F
  unfold B_Dealing_begin_i
  simp only [forall_eq]
  have F0 : FB M M := ⟨fun _ _ _ _ _ _ => rfl, fun _ _ _ _ => rfl⟩
  refine L 0 (Nat.zero_le _) _ (hh.of (fun q _ _ => by rw [mset_ne (by omega), mset_ne (by omega), mset_ne (by omega)])) ?_ (fun e g he => by cases he) (ms_s _ _ _ _) ?_ (fun g hg => absurd hg (Nat.not_lt_zero _)) (((F0.set (by omega)).set (by omega)).set (by omega)) (Nat.le_refl _)
  · rw [ms_j (by decide), ms_j (by decide), ms_s]; rfl
  · rw [ms_j (by decide), ms_s]
end
section
variable {T : Nat} {s : ST} {M : Mem}
theorem rx_deal {M' : Mem} (R : RX s M) (e : ∀ q, (q < 124 ∨ 142 ≤ q) → M' q = M q) (d : DOK (xP s) (xH s) M') : RX s M' := by
  obtain ⟨R1, R2, R3, R4, R5, R7, R8, R9⟩ := R
  refine ⟨R1.of (fun q _ _ => e q (by omega)), R2.of (fun q _ _ => e q (by omega)), R3.of (fun q _ _ => e q (by omega)), R4.of (fun q _ _ => e q (by omega)), ?_, ?_, d, ?_⟩
  · unfold TX; rw [e 1 (by omega), e 2 (by omega)]; exact R5
  · unfold SN; rw [e 142 (by omega), e 143 (by omega), e 144 (by omega)]; exact R7
  · unfold SOK; rw [e 142 (by omega), e 146 (by omega)]; exact R9
theorem s_refresh {post : Mem → Prop} (I : IX T s) (n : IN s) (R : RX s M) (k : ∀ M', RX s M' → M' 124 10 = 0 → (∃ t, t < 2 ^ 31 ∧ M' 124 9 = nI t ∧ (if t ≤ 99 then t else 100) = dlT (xP s) (xH s)) → (∀ g, g < pN (xP s) → M' 127 g = oI (dlO (xP s) (xH s) g)) → post M') : P_Dealing_refresh M 18 post := by
  have pw := I.1
  have h7 := I.1.1
  have v := I.2.2.1.1
  have t20 := t20 I
  have m7 := bk7 pw (xH s)
  unfold P_Dealing_refresh B_Dealing_refresh_i
  rcases R.2.2.2.2.2.2.1 with d | ⟨d0, d1, d2⟩
  · rw [d]
    refine brn_f (by decide) ?_
    simp only [forall_eq]
    have q1 : ∀ q, q ≠ 124 → mset M 124 10 0 q = M q := fun q hq => mset_ne hq
    refine s_copy h7 (Or.inl (by decide)) (R.2.1.of (fun q _ _ => q1 q (by omega))) (fun M2 H2 f2 => ?_)
    have q2 : ∀ q, q ≠ 124 → (q < 128 ∨ 136 ≤ q) → M2 q = M q := fun q h1 h2 => (f2 q (by omega)).trans (q1 q h1)
    refine s_dbegin (R.1.of (fun q _ _ => q2 q (by omega) (by omega))) pw H2 v (fun M3 f H3 F3 e6 e5 e8 e7 e27 e26 FB3 => ?_)
    have q3 : ∀ q, (q < 124 ∨ 136 ≤ q) → M3 q = M q := fun q hq => (FB3.1 q (by omega) (by omega) (by omega) (by omega) (by omega)).trans (q2 q (by omega) (by omega))
    have e10 : M3 124 10 = 0 := by rw [FB3.2 10 (by decide) (by decide) (by decide), f2 124 (by omega), ms_s]
    rw [e6]
    by_cases c : (bkd (xP s) (xH s)).length = 0
    · rw [c]
      have hnob : ∀ g, g < pN (xP s) → ¬ hW (xH s) g = 0 := fun g hg hw => by
        have := bkd_mem.mpr ⟨hg, hw⟩
        rw [List.eq_nil_of_length_eq_zero c] at this
        exact absurd this List.not_mem_nil
      have eR : HR M3 128 (pN (xP s)) (xH s) := by
        refine ⟨H3.1, H3.2.1, fun g hg => ?_⟩
        obtain ⟨k1, k2, k3, k4⟩ := H3.2.2 g hg
        exact ⟨k1, k2, k3.trans (congrArg nI (F3.2 g hg (hnob g hg))), k4⟩
      refine brn_t rfl (s_look (R.1.of (fun q _ _ => q3 q (by omega))) pw eR v t20 (by decide) (Or.inl (by decide)) (fun M6 l L l7 O f6 => ?_))
      obtain ⟨u, -, -, V⟩ := ov_all v pw L l7
      have eB : dlB (xP s) (xH s) = if dn (xP s) (dlH (xP s) (xH s) []) < 100 then (dn (xP s) (dlH (xP s) (xH s) []), some []) else (100, none) := by unfold dlB; rw [c]; rfl
      have eH : dlH (xP s) (xH s) [] = xH s := by unfold dlH; rw [List.eq_nil_of_length_eq_zero c]; rfl
      have ed := dn_eq v pw n.1 L
      rw [eH] at eB
      have e9 : mset M6 124 9 (M6 136 8) 124 9 = nI (oD (oA (xP s) (xH s) l)) := by rw [ms_s]; exact O.2.1
      have e10' : mset M6 124 9 (M6 136 8) 124 10 = 0 := by rw [ms_j (by decide), f6 124 (by omega)]; exact e10
      have eO : ∀ g, g < pN (xP s) → mset M6 124 9 (M6 136 8) 127 g = oI (dlO (xP s) (xH s) g) := fun g hg => by
        rw [ms_k (by decide), f6 127 (by omega), e27 g hg]
        have : dlO (xP s) (xH s) g = none := ow_nb (b := (dlB (xP s) (xH s)).2) (hnob g hg)
        rw [this]; rfl
      have eT : ∃ t, t < 2 ^ 31 ∧ mset M6 124 9 (M6 136 8) 124 9 = nI t ∧ (if t ≤ 99 then t else 100) = dlT (xP s) (xH s) := by
        refine ⟨_, ?_, e9, ?_⟩
        · omega
        · unfold dlT
          rw [eB, ed]
          by_cases z : oD (oA (xP s) (xH s) l) ≤ 99
          · rw [if_pos z, if_pos (by omega)]; show _ = min _ 100; omega
          · rw [if_neg z, if_neg (by omega)]
      exact k _ (rx_deal R (fun q hq => by rw [mset_ne (by omega), f6 q (by omega)]; exact q3 q (by omega)) (Or.inr ⟨e10', eT, eO⟩)) e10' eT eO
    · refine brn_f (fun z => c (nI_inj (b := 0) (by omega) (by decide) z)) ?_
      have hnr : ∀ g, g ∈ bkd (xP s) (xH s) → nrI (xH s) (pN (xP s)) ≤ hR (xH s) g := fun g hg => nrI_le _ _ g (bkd_mem.mp hg).1 (bkd_mem.mp hg).2
      have n9 : nrI (xH s) (pN (xP s)) ≤ 9 := by
        obtain ⟨l1, l2, l3⟩ := lo_n (P := xP s) (h := xH s) (e := 0) (by omega)
        have := hnr _ (List.mem_of_getElem? l3)
        have := (v.2 _ l1).2.2.1
        omega
      intro R15 k15
      unfold B_Dealing_search_i
      have q4 : ∀ q, q ≠ 124 → mset M3 124 9 100 q = M3 q := fun q hq => mset_ne hq
      have v1 := gv_RR (f := f) v (F3.le9 v n9 (fun x hx => absurd hx List.not_mem_nil))
      refine s_lineUp (h := sRR (xH s) f) (R.1.of (fun q _ _ => by rw [q4 q (by omega)]; exact q3 q (by omega))) pw (H3.of (fun q _ _ => q4 q (by omega))) v1 (by decide) (Or.inl (by decide)) (fun M5 l L a6 al l7 f5 => ?_)
      simp only [forall_eq]
      obtain ⟨r, er⟩ : ∃ r, (bkd (xP s) (xH s)).length = r + 1 := ⟨(bkd (xP s) (xH s)).length - 1, by omega⟩
      have q5 : ∀ q, q ≠ 136 → q ≠ 137 → M5 q = mset M3 124 9 100 q := fun q h2 h3 => f5.1 q h2 h3
      have L' : LN (xP s) (xH s) l := L
      have cmx := cn_le [] (bkd (xP s) (xH s)).length 0
      have fq6 : FQ r ≤ FQ 6 := by
        have : ∀ a b, a ≤ b → FQ a ≤ FQ b := fun a b hab => by
          induction hab with
          | refl => exact Nat.le_refl _
          | @step m _ ih => exact Nat.le_trans ih (by show FQ m ≤ 6 * (1 + FQ m) + 1; omega)
        exact this r 6 (by omega)
      have f6v : FQ 6 = 65317 := by decide
      have cm : cn [] (bkd (xP s) (xH s)).length 0 * (1 + FQ r) ≤ 7 * (1 + FQ 6) := Nat.mul_le_mul (by omega) (by omega)
      have go := out_all (M0 := M3) (R15 := R15) k15 pw v n.1 t20 L' l7 hnr n9 r [] (100, none) 0 M5 f (by rw [er]; rfl) (fun x hx => absurd hx List.not_mem_nil) (Nat.le_refl _) (by omega) ⟨⟨R.1.of (fun q _ _ => by rw [q5 q (by omega) (by omega), q4 q (by omega)]; exact q3 q (by omega)), R.2.1.of (fun q _ _ => by rw [q5 q (by omega) (by omega), q4 q (by omega)]; exact q3 q (by omega)), by rw [q5 124 (by decide) (by decide), ms_j (by decide)]; exact e6, by rw [q5 125 (by decide) (by decide), q4 125 (by decide)]; exact e5, by rw [q5 124 (by decide) (by decide), ms_j (by decide)]; exact e8, a6, al, fun q hq => by rw [q5 q (by omega) (by omega)]; exact q4 q (by omega), by rw [q5 124 (by decide) (by decide), ms_j (by decide)]; exact e10⟩, fun e x hx => (Option.some_ne_none x hx.symm).elim, by rw [q5 124 (by decide) (by decide), ms_s]; rfl, fun g hg => by rw [q5 127 (by decide) (by decide), q4 127 (by decide)]; exact e27 g hg⟩ (Or.inl ⟨rfl, by rw [q5 126 (by decide) (by decide), q4 126 (by decide)]; exact e26 0 (Nat.le_refl _) (by decide), ⟨0, by decide, by rw [q5 124 (by decide) (by decide), ms_j (by decide)]; exact e7, fun e he => ⟨fun z => absurd z (by rw [Nat.zero_div]; decide), fun z => absurd z List.not_mem_nil⟩⟩⟩) (fun e _ h2 => by rw [q5 126 (by decide) (by decide), q4 126 (by decide)]; exact e26 e (Nat.zero_le _) h2) (H3.of (fun q _ _ => by rw [q5 q (by omega) (by omega)]; exact q4 q (by omega))) ⟨fun e g he _ => F3.1 e g he, F3.2⟩
      refine go (fun M' f' c' hc' S B _ H FP' => ?_)
      obtain ⟨D, -, S9, So⟩ := S
      have eB : dlS (xP s) (xH s) (ext (bkd (xP s) (xH s)).length (r + 1) []) (100, none) = dlB (xP s) (xH s) := by unfold dlB perms; rw [er]
      rw [eB] at S9 So
      have b100 : (dlB (xP s) (xH s)).1 ≤ 100 := dlS_le _ _ _ (100, none)
      have e10' : M' 124 10 = 0 := D.2.2.2.2.2.2.2.2
      have eT : ∃ t, t < 2 ^ 31 ∧ M' 124 9 = nI t ∧ (if t ≤ 99 then t else 100) = dlT (xP s) (xH s) := by
        refine ⟨_, by omega, S9, ?_⟩
        unfold dlT
        split <;> omega
      have fin := k M' (rx_deal R (fun q hq => (D.2.2.2.2.2.2.2.1 q hq).trans (q3 q (by omega))) (Or.inr ⟨e10', eT, So⟩)) e10' eT So
      apply k15
      unfold B_Dealing_search_15
      exact ⟨fun _ => fin, fun _ => s_place_n (show nI ([] : List Nat).length + (-1) < 0 by decide) (br_t rfl fin)⟩
  · rw [d0]
    exact brn_t rfl (k M R d0 d1 d2)
theorem x_deal {p : Int32} {post : Int32 → Mem → Prop} (I : IX T s) (n : IN s) (R : RX s M) (k : ∀ M', RX (fDeal s p).2 M' → post (fDeal s p).1 M') : P_NB_deal M p post := by
  have h7 := I.1.1
  intro R18 k18
  unfold B_NB_deal_i
  unfold fDeal at k
  by_cases c : p = -1
  · rw [if_pos c] at k
    refine ⟨fun _ => ?_, fun z => absurd c z⟩
    apply k18
    unfold B_NB_deal_18
    refine s_refresh I n R (fun M1 R1 d0 d1 d2 => ⟨fun z => absurd c z, fun _ => ?_⟩)
    obtain ⟨t, t1, t2, t3⟩ := d1
    refine x_wh (x := t) ⟨t2, t1⟩ ?_
    have := k M1 R1
    rw [← t3] at this
    have e : wh (if t ≤ 99 then t else 100) = wh t := by
      unfold wh
      by_cases z : t ≤ 99
      · rw [if_pos z, if_pos z]
      · rw [if_neg z, if_neg z, if_neg (by decide)]
    rw [e] at this
    exact this
  · rw [if_neg c] at k
    refine ⟨fun z => absurd z c, fun _ => s_has R.1.1 h7 (fun g hg e => brn_f (by decide) ?_) (fun q => brn_t rfl ?_)⟩
    · subst e
      rw [gi_some hg (by omega)] at k
      apply k18
      unfold B_NB_deal_18
      refine s_refresh I n R (fun M1 R1 d0 d1 d2 => ⟨fun _ => ?_, fun z => absurd z c⟩)
      unfold P_Dealing_ownerFor B_Dealing_ownerFor_i
      refine s_has_t R1.1.1 h7 hg (br_f (by decide) ⟨vin (by omega) (by decide), ?_⟩)
      rw [cl (by omega), d2 g hg]
      exact k M1 R1
    · rw [gi_none (by omega) q] at k
      exact k M R
end
