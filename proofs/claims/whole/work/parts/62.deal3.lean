def cn (pre : List Nat) : Nat → Nat → Nat
  | 0, _ => 0
  | j + 1, k => (if k ∈ pre then 0 else 1) + cn pre j (k + 1)
theorem cn_le (pre : List Nat) : ∀ j k, cn pre j k ≤ j
  | 0, _ => Nat.le_refl _
  | j + 1, k => by
    unfold cn
    have := cn_le pre j (k + 1)
    split <;> omega
theorem cn_lt {pre : List Nat} {x : Nat} (hx : x ∈ pre) : ∀ j k, k ≤ x → x < k + j → cn pre j k + 1 ≤ j
  | 0, k, h1, h2 => by omega
  | j + 1, k, h1, h2 => by
    unfold cn
    by_cases c : k = x
    · have := cn_le pre j (k + 1)
      rw [c, if_pos hx, ← c]; omega
    · have := cn_lt hx j (k + 1) (by omega) (by omega)
      split <;> omega
theorem skip {m r : Nat} {pre : List Nat} : ∀ s j k, (∀ i, k ≤ i → i < k + s → i ∈ pre) → exk m r pre (s + j) k = exk m r pre j (k + s) ∧ cn pre (s + j) k = cn pre j (k + s)
  | 0, j, k, _ => by rw [Nat.zero_add]; exact ⟨rfl, rfl⟩
  | s + 1, j, k, h => by
    obtain ⟨a, b⟩ := skip (m := m) (r := r) s j (k + 1) (fun i h1 h2 => h i (by omega) (by omega))
    have hk := h k (Nat.le_refl _) (by omega)
    rw [show s + 1 + j = (s + j) + 1 by omega, show k + (s + 1) = k + 1 + s by omega]
    show (if k ∈ pre then [] else ext m r (pre ++ [k])) ++ exk m r pre (s + j) (k + 1) = _ ∧ (if k ∈ pre then 0 else 1) + cn pre (s + j) (k + 1) = _
    rw [if_pos hk, if_pos hk, a, b]
    exact ⟨rfl, Nat.zero_add _⟩
def FQ : Nat → Nat
  | 0 => 0
  | r + 1 => 6 * (1 + FQ r) + 1
/-- rooms but the one at the end of the beginning -/
def FPh (P : PT) (h : HT) (nr : Nat) (pre : List Nat) (f : Nat → Nat) : Prop := (∀ e g : Nat, (bkd P h)[e]? = some g → e ≠ pre.length → f g = rmv P h nr pre[e]?) ∧ ∀ g, g < pN P → ¬ hW h g = 0 → f g = hR h g
section
variable {P : PT} {h : HT} {nr : Nat} {l : List Nat} {M0 : Mem}
theorem FP.le9 {pre : List Nat} {f : Nat → Nat} (a : FP P h nr pre f) (v : GV P h) (n9 : nr ≤ 9) (hp : ∀ x, x ∈ pre → x < (bkd P h).length) : ∀ g, g < pN P → f g ≤ 9 := by
  intro g hg
  by_cases c : hW h g = 0
  · obtain ⟨i, hi⟩ := List.getElem?_of_mem (bkd_mem.mpr ⟨hg, c⟩)
    rw [a.1 i g hi]
    cases e : pre[i]? with
    | none => exact n9
    | some x =>
      have := (lo_n (P := P) (h := h) (hp x (List.mem_of_getElem? e))).1
      exact (v.2 _ this).2.2.1
  · rw [a.2 g hg c]; exact (v.2 g hg).2.2.1
theorem FPh.pick {pre : List Nat} {f : Nat → Nat} {x : Nat} (a : FPh P h nr pre f) (hd : pre.length < (bkd P h).length) : FP P h nr (pre ++ [x]) (va_up f (lo P h pre.length) (hR h (lo P h x))) := by
  obtain ⟨l1, l2, l3⟩ := lo_n hd
  refine ⟨fun e g he => ?_, fun g hg hw => ?_⟩
  · by_cases z : e = pre.length
    · subst z
      rw [l3] at he
      cases he
      rw [up_s, List.getElem?_append_right (Nat.le_refl _), Nat.sub_self]; rfl
    · have ne : g ≠ lo P h pre.length := fun y => z (by rw [y] at he; rw [← idx_nd _ _ _ (bkd_nd P h) he, idx_nd _ _ _ (bkd_nd P h) l3])
      rw [up_n ne, a.1 e g he z]
      by_cases y : e < pre.length
      · rw [List.getElem?_append_left y]
      · rw [List.getElem?_eq_none (show pre.length ≤ e by omega), List.getElem?_eq_none (by rw [List.length_append, List.length_singleton]; omega)]
  · rw [up_n (fun z => hw (by rw [z]; exact l2))]; exact a.2 g hg hw
theorem FPh.fail {pre : List Nat} {f : Nat → Nat} (a : FPh P h nr pre f) (hd : pre.length < (bkd P h).length) : FP P h nr pre (va_up f (lo P h pre.length) nr) := by
  obtain ⟨l1, l2, l3⟩ := lo_n hd
  refine ⟨fun e g he => ?_, fun g hg hw => ?_⟩
  · by_cases z : e = pre.length
    · subst z
      rw [l3] at he
      cases he
      rw [up_s, List.getElem?_eq_none (Nat.le_refl _)]
      rfl
    · have ne : g ≠ lo P h pre.length := fun y => z (by rw [y] at he; rw [← idx_nd _ _ _ (bkd_nd P h) he, idx_nd _ _ _ (bkd_nd P h) l3])
      rw [up_n ne]; exact a.1 e g he z
  · rw [up_n (fun z => hw (by rw [z]; exact l2))]; exact a.2 g hg hw
theorem FP.hole {pre : List Nat} {f : Nat → Nat} {x : Nat} (a : FP P h nr (pre ++ [x]) f) : FPh P h nr pre f ∧ FPh P h nr (pre ++ [x]) f := by
  refine ⟨⟨fun e g he z => ?_, a.2⟩, fun e g he _ => a.1 e g he, a.2⟩
  rw [a.1 e g he]
  by_cases y : e < pre.length
  · rw [List.getElem?_append_left y]
  · rw [List.getElem?_eq_none (show pre.length ≤ e by omega), List.getElem?_eq_none (by rw [List.length_append, List.length_singleton]; omega)]
/-- where the search stands -/
def SS (P : PT) (h : HT) (nr : Nat) (l : List Nat) (M0 : Mem) (pre : List Nat) (b : Nat × Option (List Nat)) (M : Mem) : Prop := DSt P h nr l M0 M ∧ (∀ e x : Nat, pre[e]? = some x → M 126 e = nI x) ∧ M 124 9 = nI b.1 ∧ ∀ g, g < pN P → M 127 g = oI (ow P h b.2 g)
theorem dn_q {pre q : List Nat} {f : Nat → Nat} (pw : PW P) (v : GV P h) (n : NS P h) (L : LN P h l) (hnr : ∀ g, g ∈ bkd P h → nr ≤ hR h g) (n9 : nr ≤ 9) (a : FP P h nr pre f) (hq : ∀ x, x ∈ q → x < (bkd P h).length) (hl : q.length = (bkd P h).length) (t : List Nat) (e : q = pre ++ t) : min (oD (oA P (sRR h f) l)) 100 ≤ dn P (dlH P h q) := by
  obtain ⟨fq, e1, e2⟩ := dlH_eq P h q
  have b := e2 hl nr
  rw [e1, dn_eq (gv_RR v (b.le9 v n9 hq)) pw n (show LN P (sRR h fq) l from L)]
  have := oD_mono (P := P) (h := h) (f := f) (f' := fq) (l := l) (fun g hg => a.le b hnr hq t e hl g ((ln_mem L g).mp hg).1)
  omega
theorem dn_l {q : List Nat} {f : Nat → Nat} (pw : PW P) (v : GV P h) (n : NS P h) (L : LN P h l) (hnr : ∀ g, g ∈ bkd P h → nr ≤ hR h g) (n9 : nr ≤ 9) (a : FP P h nr q f) (hq : ∀ x, x ∈ q → x < (bkd P h).length) (hl : q.length = (bkd P h).length) : dn P (dlH P h q) = min (oD (oA P (sRR h f) l)) 100 := by
  obtain ⟨fq, e1, e2⟩ := dlH_eq P h q
  have b := e2 hl nr
  rw [e1, dn_eq (gv_RR v (b.le9 v n9 hq)) pw n (show LN P (sRR h fq) l from L)]
  have h1 := oD_mono (P := P) (h := h) (f := f) (f' := fq) (l := l) (fun g hg => a.le b hnr hq [] (List.append_nil _).symm hl g ((ln_mem L g).mp hg).1)
  have h2 := oD_mono (P := P) (h := h) (f := fq) (f' := f) (l := l) (fun g hg => b.le a hnr hq [] (List.append_nil _).symm hl g ((ln_mem L g).mp hg).1)
  rw [show oD (oA P (sRR h fq) l) = oD (oA P (sRR h f) l) by omega]
/-- from here on the search does all that is left at this depth -/
def OUT (P : PT) (h : HT) (nr : Nat) (l : List Nat) (M0 : Mem) (R15 : Mem → Int32 → Int32 → Prop) (r : Nat) : Prop := ∀ (pre : List Nat) (b : Nat × Option (List Nat)) (c : Nat) (M : Mem) (f : Nat → Nat), r + 1 + pre.length = (bkd P h).length → (∀ x, x ∈ pre → x < (bkd P h).length) → b.1 ≤ 100 → c + (cn pre (bkd P h).length 0 * (1 + FQ r) + 1) ≤ 1000000 → SS P h nr l M0 pre b M → CS P h M pre.length pre 0 → DP (pre.length + 1) M → HR M 128 (pN P) (sRR h f) → FPh P h nr pre f → (∀ (M' : Mem) (f' : Nat → Nat) (c' : Nat), c' ≤ c + (cn pre (bkd P h).length 0 * (1 + FQ r) + 1) → SS P h nr l M0 pre (dlS P h (ext (bkd P h).length (r + 1) pre) b) M' → BT (M' 124 7) pre → DP pre.length M' → HR M' 128 (pN P) (sRR h f') → FP P h nr pre f' → R15 M' (nI pre.length + (-1)) (nI c')) → R15 M (nI pre.length) (nI c)
theorem ow_nb {b : Option (List Nat)} {g : Nat} (hw : ¬ hW h g = 0) : ow P h b g = none := by
  unfold ow
  cases b with
  | none => rfl
  | some q => simp only; rw [if_neg hw]
theorem out_in {R15 : Mem → Int32 → Int32 → Prop} {post : Mem → Prop} (k15 : ∀ (M : Mem) (x y : Int32), B_Dealing_search_15 18 post R15 M x y → R15 M x y) (pw : PW P) (v : GV P h) (n : NS P h) (ht : hT h < 2 ^ 20) (L : LN P h l) (l7 : l.length ≤ 7) (hnr : ∀ g, g ∈ bkd P h → nr ≤ hR h g) (n9 : nr ≤ 9) (r : Nat) (deep : ∀ r', r = r' + 1 → OUT P h nr l M0 R15 r') : OUT P h nr l M0 R15 r := by
  have m7 := bk7 pw h
  intro pre b c M f hm hp hb hc S C dp H F kont
  rw [ext_exk] at kont
  have inner : ∀ j k b c M f, k + j = (bkd P h).length → b.1 ≤ 100 → c + (cn pre j k * (1 + FQ r) + 1) ≤ 1000000 → SS P h nr l M0 pre b M → CS P h M pre.length pre k → DP (pre.length + 1) M → HR M 128 (pN P) (sRR h f) → FPh P h nr pre f → (∀ (M' : Mem) (f' : Nat → Nat) (c' : Nat), c' ≤ c + (cn pre j k * (1 + FQ r) + 1) → SS P h nr l M0 pre (dlS P h (exk (bkd P h).length r pre j k) b) M' → BT (M' 124 7) pre → DP pre.length M' → HR M' 128 (pN P) (sRR h f') → FP P h nr pre f' → R15 M' (nI pre.length + (-1)) (nI c')) → R15 M (nI pre.length) (nI c) := by
    intro j
    induction j using Nat.strongRecOn with
    | _ j ih =>
      intro k b c M f hk hb hc S C dp H F kont
      obtain ⟨D, Sp, S9, So⟩ := S
      have hd : pre.length < (bkd P h).length := by omega
      apply k15
      unfold B_Dealing_search_15
      refine br_f (nI_ge (b := 1000000) (by omega) (by decide)) (s_place_t D.2.2.1 m7 hd (br_f (by decide) ?_))
      refine s_pick pw D C hd (by omega) H (fun k' g1 g2 g3 g4 M1 F1 e1 B1 H1 => brn_f (by decide) ?_) (fun g1 M1 F1 e1 B1 H1 => brn_t rfl ?_)
      · have D1 : DSt P h nr l M0 M1 := D.of (fun q hq => F1.1 q (by omega) (by omega) (by omega)) (fun i hi => F1.2.1 i (by omega)) (by rw [F1.1 136 (by decide) (by decide) (by decide)])
        have FP1 := F.pick (x := k') hd
        have hp' : ∀ x, x ∈ pre ++ [k'] → x < (bkd P h).length := fun x hx => by
          rcases List.mem_append.mp hx with z | z
          · exact hp x z
          · rw [List.mem_singleton.mp z]; exact g2
        generalize hf' : va_up f (lo P h pre.length) (hR h (lo P h k')) = f' at H1 FP1
        obtain ⟨j', ej⟩ : ∃ j', j = (k' - k) + (j' + 1) := ⟨(bkd P h).length - k' - 1, by omega⟩
        have sk := skip (m := (bkd P h).length) (r := r) (pre := pre) (k' - k) (j' + 1) k (fun i h1 h2 => g4 i h1 (by omega))
        rw [← ej, show k + (k' - k) = k' by omega] at sk
        have sk1 : exk (bkd P h).length r pre j k = ext (bkd P h).length r (pre ++ [k']) ++ exk (bkd P h).length r pre j' (k' + 1) := by
          rw [sk.1]
          show (if k' ∈ pre then [] else ext (bkd P h).length r (pre ++ [k'])) ++ _ = _
          rw [if_neg g3]
        have sk2 : cn pre j k * (1 + FQ r) = (1 + FQ r) + cn pre j' (k' + 1) * (1 + FQ r) := by
          rw [sk.2]
          show ((if k' ∈ pre then 0 else 1) + cn pre j' (k' + 1)) * (1 + FQ r) = _
          rw [if_neg g3, Nat.add_mul, Nat.one_mul]
        rw [sk1, dlS_app] at kont
        rw [sk2] at hc kont
        generalize hX : cn pre j' (k' + 1) * (1 + FQ r) = X at hc kont
        have v1 := gv_RR v (FP1.le9 v n9 hp')
        refine s_reckon (a := 136) (p := 128) (h := sRR h f') D1.1 pw H1 v1 ht (by decide) (Or.inl (by decide)) (show LN P (sRR h f') l from L) D1.2.2.2.2.2.1 D1.2.2.2.2.2.2.1 l7 (fun M2 O F2 => ?_)
        have q2 : ∀ q, q < 136 → M2 q = M1 q := fun q hq => F2.1 q (Or.inl hq)
        have D2 : DSt P h nr l M0 M2 := D1.of (fun q hq => by
          by_cases z : q = 137
          · rw [z]; exact F2.2.1
          · exact F2.1 q (by omega)) (fun i _ => by rw [q2 124 (by decide)]) F2.2.2
        have e9 : M2 124 9 = nI b.1 := by rw [q2 124 (by decide), F1.2.1 9 (by decide)]; exact S9
        have So2 : ∀ g, g < pN P → M2 127 g = oI (ow P h b.2 g) := fun g hg => by rw [q2 127 (by decide), F1.1 127 (by decide) (by decide) (by decide)]; exact So g hg
        have H2 : HR M2 128 (pN P) (sRR h f') := H1.of (fun q _ _ => q2 q (by omega))
        have dp2 : DP (pre.length + 1) M2 := fun e h1 h2 => by rw [q2 126 (by decide), F1.2.2 e (by omega)]; exact dp e h1 h2
        have e2 : M2 126 pre.length = nI k' := by rw [q2 126 (by decide)]; exact e1
        have B2 : BT (M2 124 7) (pre ++ [k']) := by rw [q2 124 (by decide)]; exact B1
        have Sp2 : ∀ e x : Nat, pre[e]? = some x → M2 126 e = nI x := fun e x hx => by
          have := (List.getElem?_eq_some_iff.mp hx).1
          rw [q2 126 (by decide), F1.2.2 e (by omega)]; exact Sp e x hx
        have Spq : ∀ e x : Nat, (pre ++ [k'])[e]? = some x → M2 126 e = nI x := fun e x hx => by
          by_cases z : e < pre.length
          · rw [List.getElem?_append_left z] at hx; exact Sp2 e x hx
          · have y := (List.getElem?_eq_some_iff.mp hx).1
            rw [List.length_append, List.length_singleton] at y
            have : e = pre.length := by omega
            subst this
            rw [List.getElem?_append_right (Nat.le_refl _), Nat.sub_self] at hx
            cases hx
            exact e2
        obtain ⟨u, -, -, V⟩ := ov_all v1 pw (show LN P (sRR h f') l from L) l7
        rw [O.2.1, e9, D2.2.2.1]
        simp only [forall_eq, nI_1]
        by_cases z : oD (oA P (sRR h f') l) < b.1
        · refine br_t (nI_lt z (by omega)) ?_
          rw [show nI (bkd P h).length - 1 = nI ((bkd P h).length - 1) from pk_sub (b := 1) (by omega)]
          by_cases r0 : r = 0
          · subst r0
            have hlen : pre.length = (bkd P h).length - 1 := by omega
            refine brn_t (by rw [hlen]) ?_
            have hql : (pre ++ [k']).length = (bkd P h).length := by rw [List.length_append, List.length_singleton]; omega
            have edn := dn_l pw v n L hnr n9 FP1 hp' hql
            refine s_write (q := pre ++ [k']) pw (D2.of (fun q hq => mset_ne (by omega)) (fun i hi => ms_j (by omega)) (by rw [ms_k (by decide)])) hql hp' (fun e x hx => by rw [ms_k (by decide)]; exact Spq e x hx) (fun g hg hw => by rw [ms_k (by decide), So2 g hg, ow_nb hw]) (fun M3 F3 W3 => ?_)
            have q3 : ∀ q, q ≠ 127 → q ≠ 124 → M3 q = M2 q := fun q h1 h2 => by rw [F3 q h1, mset_ne h2]
            have eb : dlS P h (ext (bkd P h).length 0 (pre ++ [k'])) b = (oD (oA P (sRR h f') l), some (pre ++ [k'])) := by
              show (if dn P (dlH P h (pre ++ [k'])) < b.1 then (dn P (dlH P h (pre ++ [k'])), some (pre ++ [k'])) else b) = _
              rw [edn, show min (oD (oA P (sRR h f') l)) 100 = oD (oA P (sRR h f') l) by omega, if_pos z]
            rw [eb] at kont
            have t7 : M3 124 7 = M2 124 7 := by rw [F3 124 (by decide), ms_j (by decide)]
            refine ih j' (by omega) (k' + 1) (oD (oA P (sRR h f') l), some (pre ++ [k'])) (c + 1) M3 f' (by omega) (by show oD _ ≤ 100; omega) (by rw [hX]; omega) ⟨D2.of (fun q hq => q3 q (by omega) (by omega)) (fun i hi => by rw [F3 124 (by decide), ms_j (by omega)]) (by rw [q3 136 (by decide) (by decide)]), fun e x hx => by rw [q3 126 (by decide) (by decide)]; exact Sp2 e x hx, by rw [F3 124 (by decide), ms_s], W3⟩ (Or.inr ⟨k', rfl, by rw [q3 126 (by decide) (by decide)]; exact e2, g3, g2, by rw [t7]; exact B2⟩) (fun e h1 h2 => by rw [q3 126 (by decide) (by decide)]; exact dp2 e h1 h2) (H2.of (fun q _ _ => q3 q (by omega) (by omega))) FP1.hole.1 (fun M' f'' c' hc' => kont M' f'' c' (by rw [hX] at hc'; omega))
          · obtain ⟨r', er⟩ : ∃ r', r = r' + 1 := ⟨r - 1, by omega⟩
            refine brn_f (fun y => r0 (by have := nI_inj (by omega) (by omega) y; omega)) ?_
            have c6 := cn_lt (pre := pre ++ [k']) (x := k') (List.mem_append_right _ (List.mem_singleton.mpr rfl)) (bkd P h).length 0 (Nat.zero_le _) (by omega)
            have cm6 : cn (pre ++ [k']) (bkd P h).length 0 * (1 + FQ r') ≤ 6 * (1 + FQ r') := Nat.mul_le_mul_right _ (by omega)
            have eFQ : FQ r = 6 * (1 + FQ r') + 1 := by rw [er]; rfl
            have hl1 : (pre ++ [k']).length = pre.length + 1 := by rw [List.length_append, List.length_singleton]
            have go := deep r' er (pre ++ [k']) b (c + 1) M2 f' (by rw [hl1]; omega) hp' hb (by omega) ⟨D2, Spq, e9, So2⟩ (Or.inl ⟨rfl, by rw [hl1]; exact dp2 _ (Nat.le_refl _) (by omega), B2⟩) (fun e h1 h2 => dp2 e (by omega) h2) H2 FP1.hole.2
            rw [hl1] at go
            refine go (fun M3 f3 c3 hc3 S3 B3 dp3 H3 FP3 => ?_)
            rw [← er] at S3
            obtain ⟨D3, Sp3, S39, So3⟩ := S3
            rw [show nI (pre.length + 1) + (-1) = nI pre.length from (Int32.sub_eq_add_neg _ _).symm.trans (by rw [show (1 : Int32) = nI 1 from rfl, pk_sub (by omega)]; exact congrArg nI (by omega))]
            refine ih j' (by omega) (k' + 1) _ c3 M3 f3 (by omega) (Nat.le_trans (dlS_le P h _ b) hb) (by rw [hX]; omega) ⟨D3, fun e x hx => Sp3 e x (by rw [List.getElem?_append_left (List.getElem?_eq_some_iff.mp hx).1]; exact hx), S39, So3⟩ (Or.inr ⟨k', rfl, Sp3 pre.length k' (by rw [List.getElem?_append_right (Nat.le_refl _), Nat.sub_self]; rfl), g3, g2, B3⟩) dp3 H3 FP3.hole.1 (fun M' f'' c' hc' => kont M' f'' c' (by rw [hX] at hc'; omega))
        · refine br_f (nI_nlt (by omega) (by omega)) ?_
          have eb : dlS P h (ext (bkd P h).length r (pre ++ [k'])) b = b := dlS_no P h _ b (fun q hq => by
            obtain ⟨⟨t, et1, et2⟩, hqm⟩ := ext_mem r (pre ++ [k']) q hq hp'
            have := dn_q (q := q) pw v n L hnr n9 FP1 hqm (by rw [et1, List.length_append, List.length_append, List.length_singleton]; omega) t et1
            omega)
          rw [eb] at kont
          exact ih j' (by omega) (k' + 1) b (c + 1) M2 f' (by omega) hb (by rw [hX]; omega) ⟨D2, Sp2, e9, So2⟩ (Or.inr ⟨k', rfl, e2, g3, g2, B2⟩) dp2 H2 FP1.hole.1 (fun M' f'' c' hc' => kont M' f'' c' (by rw [hX] at hc'; omega))
      · have sk := skip (m := (bkd P h).length) (r := r) (pre := pre) j 0 k (fun i h1 h2 => g1 i h1 (by omega))
        rw [Nat.add_zero] at sk
        rw [sk.1] at kont
        simp only [forall_eq, nI_1]
        refine kont M1 _ (c + 1) (by omega) ⟨D.of (fun q hq => F1.1 q (by omega) (by omega) (by omega)) (fun i hi => F1.2.1 i (by omega)) (by rw [F1.1 136 (by decide) (by decide) (by decide)]), fun e x hx => ?_, by rw [F1.2.1 9 (by decide)]; exact S9, fun g hg => by rw [F1.1 127 (by decide) (by decide) (by decide)]; exact So g hg⟩ B1 (fun e h1 h2 => by
          by_cases z : e = pre.length
          · rw [z]; exact e1
          · rw [F1.2.2 e z]; exact dp e (by omega) h2) H1 (F.fail hd)
        have := (List.getElem?_eq_some_iff.mp hx).1
        rw [F1.2.2 e (by omega)]; exact Sp e x hx
  exact inner _ 0 b c M f (Nat.zero_add _) hb hc S C dp H F kont
theorem out_all {R15 : Mem → Int32 → Int32 → Prop} {post : Mem → Prop} (k15 : ∀ (M : Mem) (x y : Int32), B_Dealing_search_15 18 post R15 M x y → R15 M x y) (pw : PW P) (v : GV P h) (n : NS P h) (ht : hT h < 2 ^ 20) (L : LN P h l) (l7 : l.length ≤ 7) (hnr : ∀ g, g ∈ bkd P h → nr ≤ hR h g) (n9 : nr ≤ 9) : ∀ r, OUT P h nr l M0 R15 r
  | 0 => out_in k15 pw v n ht L l7 hnr n9 0 (fun r' e => by cases e)
  | r + 1 => out_in k15 pw v n ht L l7 hnr n9 (r + 1) (fun r' e => by cases e; exact out_all k15 pw v n ht L l7 hnr n9 r)
end
