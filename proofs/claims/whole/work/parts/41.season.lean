theorem gv_sU {P : PT} {h : HT} {g x : Nat} (v : GV P h) (hx : hT h ≤ x) (hx2 : x ≤ 40) : GV P (sU h g x) := by
  have hu : ∀ j, hU (sU h g x) j = if j = g then x else hU h j := fun _ => rfl
  have hnb : nb (sU h g x) (pN P) = nb h (pN P) := nb_same (h := h) (h' := sU h g x) (fun _ => Iff.rfl) _
  refine ⟨v.1, fun j hj => ?_⟩
  obtain ⟨v1, v2, v3, v4, v5, v6, v7, v8⟩ := v.2 j hj
  refine ⟨v1, ?_, v3, by rw [hnb]; exact v4, v5, v6, fun e => ?_, v8⟩
  · rw [hu]; split <;> omega
  · obtain ⟨w1, w2, w3, w4⟩ := v7 e
    refine ⟨?_, w2, w3, w4⟩
    rw [hu]; show hT h ≤ _; split <;> omega
theorem gv_off {P : PT} {h : HT} {g : Nat} (v : GV P h) (hg : g < pN P) (h0 : hW h g = 0) : GV P (sW h g 3) := by
  have hw : ∀ j, hW (sW h g 3) j = if j = g then 3 else hW h j := fun _ => rfl
  have hnb := nb_up (h := h) (h' := sW h g 3) (g := g) h0 (by rw [hw, if_pos rfl]; decide) (fun j hj => by rw [hw, if_neg hj]) (pN P)
  rw [if_pos hg] at hnb
  refine ⟨fun c e => ?_, fun j hj => ?_⟩
  · have e : hC h = some c := e
    have := v.1 c e
    refine ⟨this.1, ?_⟩
    rw [hw, if_neg (fun z => by rw [z] at this; omega)]
    exact this.2
  · obtain ⟨v1, v2, v3, v4, v5, v6, v7, v8⟩ := v.2 j hj
    rw [hw, hnb]
    refine ⟨by split <;> omega, v2, v3, ?_, v5, v6, fun e => ?_, fun e => ?_⟩
    · show hD h j ≤ _; omega
    · by_cases z : j = g
      · rw [if_pos z] at e; cases e
      · rw [if_neg z] at e; exact v7 e
    · by_cases z : j = g
      · rw [if_pos z] at e; cases e
      · rw [if_neg z] at e; exact v8 e
theorem hR_swp (h : HT) (g j i : Nat) : hR (swp h g j) i = if i = j then hR h g else if i = g then hR h j else hR h i := rfl
theorem gv_swp {P : PT} {h : HT} {g j : Nat} (v : GV P h) (hg : g < pN P) (hj : j < pN P) : GV P (swp h g j) := by
  have hnb : nb (swp h g j) (pN P) = nb h (pN P) := nb_same (h := h) (h' := swp h g j) (fun _ => Iff.rfl) _
  refine ⟨v.1, fun i hi => ?_⟩
  obtain ⟨v1, v2, v3, v4, v5, v6, v7, v8⟩ := v.2 i hi
  refine ⟨v1, v2, ?_, by rw [hnb]; exact v4, v5, v6, v7, v8⟩
  rw [hR_swp]
  split
  · exact (v.2 g hg).2.2.1
  · split
    · exact (v.2 j hj).2.2.1
    · exact v3
theorem swp_self (h : HT) (g : Nat) : swp h g g = h := by
  have e : va_up (va_up (hR h) g (hR h g)) g (hR h g) = hR h := by
    funext j
    unfold va_up
    split
    · rename_i z; rw [z]
    · rfl
  have e2 : va_up (va_up h.2.2.2.2.1 g (hR h g)) g (hR h g) = h.2.2.2.2.1 := e
  unfold swp sR
  simp only [e2]
/-- what a season does ahead of an hour -/
def drw (z k : Nat) : Nat := (7919 * z + 6151 * k + 1) * (7919 * z + 6151 * k + 1) % 65521
def dst (P : PT) (h : HT) (d : Nat) : HT :=
  if d % 8 = 0 then (if hW h (d / 8 % pN P) = 0 ∧ hT h ≤ min 40 (hT h + d / 64 % 8) then sU h (d / 8 % pN P) (min 40 (hT h + d / 64 % 8)) else h)
  else if d % 8 = 1 then (if hW h (d / 8 % pN P) = 0 then sW h (d / 8 % pN P) 3 else h)
  else if d % 8 = 2 then (if hW h (d / 8 % pN P) = 0 ∧ hW h (d / 64 % pN P) = 0 then swp h (d / 8 % pN P) (d / 64 % pN P) else h)
  else h
def ssn (P : PT) (z : Nat) : Nat → HT → HT
  | 0, h => h
  | k + 1, h => pss P (dst P (ssn P z k h) (drw z k))
theorem gv_dst {P : PT} {h : HT} (v : GV P h) (hn : 1 ≤ pN P) (d : Nat) : GV P (dst P h d) := by
  have hg : d / 8 % pN P < pN P := Nat.mod_lt _ hn
  have hj : d / 64 % pN P < pN P := Nat.mod_lt _ hn
  unfold dst
  split
  · split
    · rename_i c; exact gv_sU v c.2 (Nat.min_le_left _ _)
    · exact v
  · split
    · split
      · rename_i c; exact gv_off v hg c
      · exact v
    · split
      · split
        · exact gv_swp v hg hj
        · exact v
      · exact v
theorem hT_dst (P : PT) (h : HT) (d : Nat) : hT (dst P h d) = hT h := by
  unfold dst
  repeat' split
  all_goals rfl
theorem gv_ssn {P : PT} {h : HT} {z : Nat} (v : GV P h) (pw : PW P) (hn : 1 ≤ pN P) : ∀ k, GV P (ssn P z k h)
  | 0 => v
  | k + 1 => gv_pss (gv_dst (gv_ssn v pw hn k) hn _) pw
theorem hT_ssn (P : PT) (z : Nat) (h : HT) : ∀ k, hT (ssn P z k h) = hT h + k
  | 0 => rfl
  | k + 1 => by show hT (pss P (dst P (ssn P z k h) (drw z k))) = _; rw [hT_pss, hT_dst, hT_ssn P z h k]; omega
def fSeason (s : ST) (p q w : Int32) : Int32 × ST := match rg 0 9999 p with
  | none => (-1, s)
  | some z => match rg 1 60 q with
    | none => (-1, s)
    | some n => match rg 0 1 w with
      | none => (-1, s)
      | some e => (if e = 0 then nI (cW (ssn (xP s) z n (xH s)) 2 (pN (xP s))) else smG (ssn (xP s) z n (xH s)) (pN (xP s)), s)
theorem drw_eq {z k : Nat} (hz : z ≤ 9999) (hk : k < 60) : ((((((7919 : Int64) * (nI z).toInt64) + ((6151 : Int64) * (nI k).toInt64)) + (1 : Int64)) * ((((7919 : Int64) * (nI z).toInt64) + ((6151 : Int64) * (nI k).toInt64)) + (1 : Int64))) - (((((7919 : Int64) * (nI z).toInt64) + ((6151 : Int64) * (nI k).toInt64)) + (1 : Int64)) * ((((7919 : Int64) * (nI z).toInt64) + ((6151 : Int64) * (nI k).toInt64)) + (1 : Int64))) / (65521 : Int64) * (65521 : Int64)).toInt32 = nI (drw z k) := by
  rw [nI_l (by omega), nI_l (by omega), show (7919 : Int64) = lN 7919 from rfl, show (6151 : Int64) = lN 6151 from rfl, show (1 : Int64) = lN 1 from rfl, show (65521 : Int64) = lN 65521 from rfl, lN_mul, lN_mul, lN_add, lN_add, lN_mul]
  have b : 7919 * z + 6151 * k + 1 ≤ 79550000 := by omega
  have b2 : (7919 * z + 6151 * k + 1) * (7919 * z + 6151 * k + 1) ≤ 79550000 * 79550000 := Nat.mul_le_mul b b
  rw [pk_lRem (by omega) (by decide) (by decide), lN_i]
  rfl
theorem rem_nI {a d : Nat} (ha : a < 2 ^ 31) (h0 : 0 < d) (hd : d < 2 ^ 31) : nI a - nI a / nI d * nI d = nI (a % d) := pk_rem ha h0 hd
theorem imin40 {x : Nat} (hx : x < 2 ^ 31) : imin 40 (nI x) = nI (min 40 x) := by
  show (if nI x < nI 40 then nI x else nI 40) = _
  by_cases c : x < 40
  · rw [if_pos (nI_lt (b := 40) c (by decide)), Nat.min_eq_right (by omega)]
  · rw [if_neg (nI_nlt (a := x) (b := 40) (by omega) hx), Nat.min_eq_left (by omega)]
theorem s_dst {M : Mem} {a d : Nat} {P : PT} {h : HT} {post : Mem → Prop} (hP : PR M 4 P) (pw : PW P) (hn : 1 ≤ pN P) (hh : HR M a (pN P) h) (v : GV P h) (ht : hT h < 2 ^ 30) (hd : d < 65521) (k : ∀ M', HR M' a (pN P) (dst P h d) → Fr a M M' → post M') : P_House_disturb M a (nI d) post := by
  have h7 := pw.1
  have hg : d / 8 % pN P < pN P := Nat.mod_lt _ hn
  have hj : d / 64 % pN P < pN P := Nat.mod_lt _ hn
  have hw : ∀ g, g < pN P → hW h g < 2 ^ 31 := fun g hg => by have := (v.2 g hg).1; omega
  have d8 : d / 8 ≤ d := Nat.div_le_self _ _
  have d64 : d / 64 ≤ d := Nat.div_le_self _ _
  have e8 : nI d / 8 = nI (d / 8) := pk_div (d := 8) (by omega) (by decide) (by decide)
  have e64 : nI d / 64 = nI (d / 64) := pk_div (d := 64) (by omega) (by decide) (by decide)
  have r8 : nI d - nI (d / 8) * 8 = nI (d % 8) := by rw [← e8]; exact pk_rem (d := 8) (by omega) (by decide) (by decide)
  have r648 : nI (d / 64) - nI (d / 64) / 8 * 8 = nI (d / 64 % 8) := pk_rem (d := 8) (by omega) (by decide) (by decide)
  unfold P_House_disturb B_House_disturb_i
  simp only [forall_eq]
  rw [show M 4 6 = nI (pN P) from hP.1, e8, e64, r8, r648, rem_nI (by omega) hn (by omega), rem_nI (by omega) hn (by omega), hh.1, nI_add, imin40 (by omega)]
  have hm : d % 8 < 8 := Nat.mod_lt _ (by decide)
  refine br_t (nI_le (a := 1) hn (by omega)) ⟨nI_ne0 hn (by omega), fun c => ?_, fun c => ?_, fun c => ⟨nI_ne0 hn (by omega), ?_⟩, fun c0 c1 c2 => ?_⟩
  · have c : d % 8 = 0 := nI_inj (b := 0) (by omega) (by decide) c
    refine s_rebook hP.1 h7 hh hw (by omega) (by omega) hg (fun M1 q f => k M1 ?_ f)
    unfold dst; rw [if_pos c]; exact q
  · have c : d % 8 = 1 := nI_inj (b := 1) (by omega) (by decide) c
    refine s_callOff hP.1 h7 hh hw hg (fun M1 q f => k M1 ?_ f)
    unfold dst; rw [if_neg (by omega), if_pos c]; exact q
  · have c : d % 8 = 2 := nI_inj (b := 2) (by omega) (by decide) c
    refine s_swap hP.1 h7 hh hw hg hj (fun M1 q f => k M1 ?_ f)
    unfold dst; rw [if_neg (by omega), if_neg (by omega), if_pos c]; exact q
  · refine k M ?_ Fr.rf
    unfold dst
    rw [if_neg (fun z => c0 (by rw [z]; rfl)), if_neg (fun z => c1 (by rw [z]; rfl)), if_neg (fun z => c2 (by rw [z]; rfl))]; exact hh
theorem m_dst {N : Mem} {d : Nat} {P : PT} {h : HT} {post : Mem → Prop} (hP : PM N P) (pw : PW P) (hn : 1 ≤ pN P) (hh : MR N 51 (pN P) h) (v : GV P h) (ht : hT h < 2 ^ 30) (hd : d < 65521) (k : ∀ N', MR N' 51 (pN P) (dst P h d) → FM 51 N N' → post N') : P_MD_doesBy N (nI d) post := by
  have h7 := pw.1
  have hg : d / 8 % pN P < pN P := Nat.mod_lt _ hn
  have hj : d / 64 % pN P < pN P := Nat.mod_lt _ hn
  have hw : ∀ g, g < pN P → hW h g < 2 ^ 31 := fun g hg => by have := (v.2 g hg).1; omega
  have d8 : d / 8 ≤ d := Nat.div_le_self _ _
  have d64 : d / 64 ≤ d := Nat.div_le_self _ _
  have e8 : nI d / 8 = nI (d / 8) := pk_div (d := 8) (by omega) (by decide) (by decide)
  have e64 : nI d / 64 = nI (d / 64) := pk_div (d := 64) (by omega) (by decide) (by decide)
  have r8 : nI d - nI (d / 8) * 8 = nI (d % 8) := by rw [← e8]; exact pk_rem (d := 8) (by omega) (by decide) (by decide)
  have r648 : nI (d / 64) - nI (d / 64) / 8 * 8 = nI (d / 64 % 8) := pk_rem (d := 8) (by omega) (by decide) (by decide)
  have hm : d % 8 < 8 := Nat.mod_lt _ (by decide)
  intro R50 k50
  unfold B_MD_doesBy_i
  simp only [forall_eq]
  rw [hP.1, e8, e64, r8, r648, rem_nI (by omega) hn (by omega), rem_nI (by omega) hn (by omega)]
  refine ⟨nI_ne0 hn (by omega), brn_c (fun c0 => brn_c (fun c1 => brn_c (fun c2 => ?_) (fun c => ⟨nI_ne0 hn (by omega), ?_⟩)) (fun c => ?_)) (fun c => ⟨vin (n := 51) (by decide) (by decide), ?_⟩)⟩
  · refine k N ?_ FM.rf
    unfold dst
    rw [if_neg (fun z => c0 (by rw [z]; rfl)), if_neg (fun z => c1 (by rw [z]; rfl)), if_neg (fun z => c2 (by rw [z]; rfl))]; exact hh
  · have c : d % 8 = 2 := nI_inj (b := 2) (by omega) (by decide) c
    have ed : dst P h d = if hW h (d / 8 % pN P) = 0 ∧ hW h (d / 64 % pN P) = 0 then swp h (d / 8 % pN P) (d / 64 % pN P) else h := by
      unfold dst; rw [if_neg (by omega), if_neg (by omega), if_pos c]
    refine m_canChange (r := 51) h7 hh (by decide) hw hg hj (fun q => br_f (by decide) ?_) (fun q => br_t rfl (k N ?_ FM.rf))
    · refine m_changes (r := 51) h7 hh (by decide) hg hj (fun N1 q1 f1 => k N1 ?_ f1)
      rw [ed, if_pos ⟨q.1, q.2.1⟩]; exact q1
    · rw [ed]
      by_cases z : hW h (d / 8 % pN P) = 0 ∧ hW h (d / 64 % pN P) = 0
      · rw [if_pos z]
        by_cases y : d / 8 % pN P = d / 64 % pN P
        · rw [← y, swp_self]; exact hh
        · exact absurd ⟨z.1, z.2, y⟩ q
      · rw [if_neg z]; exact hh
  · have c : d % 8 = 1 := nI_inj (b := 1) (by omega) (by decide) c
    have ed : dst P h d = if hW h (d / 8 % pN P) = 0 then sW h (d / 8 % pN P) 3 else h := by
      unfold dst; rw [if_neg (by omega), if_pos c]
    obtain ⟨e1, -⟩ := hh.2.2 _ hg
    have e53 : 53 + nI (d / 8 % pN P) = nI (51 + 2 + d / 8 % pN P) := nI_add 53 _
    rw [e53, cl (by omega), e1]
    refine ⟨vin (by omega) (by decide), brn_c (fun q => k N ?_ FM.rf) (fun q => ⟨vin (by omega) (by decide), k _ ?_ (FM.rf.set (by omega) (by omega))⟩)⟩
    · rw [ed, if_neg (fun z => q (by rw [z]; rfl))]; exact hh
    · rw [ed, if_pos (nI_inj (b := 0) (hw _ hg) (by decide) q)]
      exact MR.sW (x := 3) hh h7 hg
  · have c : d % 8 = 0 := nI_inj (b := 0) (by omega) (by decide) c
    have ed : dst P h d = if hW h (d / 8 % pN P) = 0 ∧ hT h ≤ min 40 (hT h + d / 64 % 8) then sU h (d / 8 % pN P) (min 40 (hT h + d / 64 % 8)) else h := by
      unfold dst; rw [if_pos c]
    rw [show (51 : Int32).toNatClampNeg = 51 from rfl, hh.1, nI_add]
    have key : ∀ x, x = min 40 (hT h + d / 64 % 8) → R50 N (nI (d / 8 % pN P)) (nI x) := by
      intro x hx
      apply k50
      unfold B_MD_doesBy_50
      have e60 : 60 + nI (d / 8 % pN P) = nI (51 + 9 + d / 8 % pN P) := nI_add 60 _
      simp only [forall_eq]
      rw [e60, cl (by omega)]
      refine m_canBook (r := 51) h7 hh (by decide) hw (by omega) (by omega) hg (fun q => br_f (by decide) ⟨vin (by omega) (by decide), k _ ?_ (FM.rf.set (by omega) (by omega))⟩) (fun q => br_t rfl (k N ?_ FM.rf))
      · rw [ed, if_pos (by rw [← hx]; exact q), ← hx]
        exact MR.sU hh h7 hg
      · rw [ed, if_neg (by rw [← hx]; exact q)]; exact hh
    refine br_c (fun q => key _ ?_) (fun q => key 40 ?_)
    · have := (nI_leI (a := hT h + d / 64 % 8) (b := 40) (by omega) (by decide)).mp q
      omega
    · have := fun z => q ((nI_leI (a := hT h + d / 64 % 8) (b := 40) (by omega) (by decide)).mpr z)
      rcases Nat.lt_or_ge 40 (hT h + d / 64 % 8) with y | y
      · omega
      · exact absurd y this
section
variable {T : Nat} {s : ST} {M : Mem}
theorem x_season {p q w : Int32} {post : Int32 → Mem → Prop} (I : IX T s) (R : RX s M) (k : ∀ M', RX (fSeason s p q w).2 M' → post (fSeason s p q w).1 M') : P_NB_season M p q w post := by
  have h7 := I.1.1
  have hn := I.2.1
  have v := I.2.2.1.1
  have ht := I.2.2.1.2
  have hT20 : T < 2 ^ 20 := I.2.2.2.2.2.2.2.2.2.2.2
  intro R47 k47
  unfold B_NB_season_i
  unfold fSeason at k
  rcases rg_cases 0 9999 (by decide) p with ⟨e, c⟩ | ⟨z, e, z1, z2, rfl⟩
  · rw [e] at k
    have k := k M R
    refine br_c (fun _ => k) (fun d => br_c (fun _ => k) (fun d2 => ?_))
    rw [i_lt] at d d2
    have d : ¬ p.toInt < 0 := d
    have d2 : ¬ 9999 < p.toInt := d2
    omega
  · rw [e] at k
    simp only at k
    refine br_f (nI_pos (by omega)) (br_f (nI_nlt (a := 9999) (b := z) (by omega) (by decide)) ?_)
    rcases rg_cases 1 60 (by decide) q with ⟨e, c⟩ | ⟨n, e, n1, n2, rfl⟩
    · rw [e] at k
      have k := k M R
      refine br_c (fun _ => k) (fun d => br_c (fun _ => k) (fun d2 => ?_))
      rw [i_lt] at d d2
      have d : ¬ q.toInt < 1 := d
      have d2 : ¬ 60 < q.toInt := d2
      omega
    · rw [e] at k
      simp only at k
      refine br_f (nI_nlt (a := n) (b := 1) (by omega) (by omega)) (br_f (nI_nlt (a := 60) (b := n) (by omega) (by decide)) ?_)
      rcases rg_cases 0 1 (by decide) w with ⟨e, c⟩ | ⟨x, e, x1, x2, rfl⟩
      · rw [e] at k
        have k := k M R
        refine br_c (fun _ => k) (fun d => br_c (fun d2 => ?_) (fun _ => k))
        rw [i_lt] at d
        rw [i_le] at d2
        have d : ¬ w.toInt < 0 := d
        have d2 : w.toInt ≤ 1 := d2
        omega
      · rw [e] at k
        simp only at k
        refine br_f (nI_pos (by omega)) (br_t (nI_le (b := 1) (by omega) (by decide)) ?_)
        refine s_copy h7 (Or.inl (by decide)) R.2.1 (fun M1 q1 f1 => ?_)
        simp only [forall_eq]
        have L : ∀ i, i ≤ n → ∀ M2, HR M2 26 (pN (xP s)) (ssn (xP s) z i (xH s)) → Fr 26 M M2 → R47 M2 (nI i) := by
          refine up_loop (fun i hi ih M2 q2 f2 => ?_) (fun M2 q2 f2 => ?_)
          · apply k47
            unfold B_NB_season_47
            have v2 := gv_ssn (z := z) v I.1 hn i
            have hP2 : PR M2 4 (xP s) := R.1.of (fun q _ _ => f2 q (by omega))
            refine br_f (nI_ge hi (by omega)) ?_
            unfold P_NB_drawOf B_NB_drawOf_i
            simp only [forall_eq]
            rw [drw_eq z2 (by omega)]
            refine s_dst hP2 I.1 hn q2 v2 (by rw [hT_ssn]; omega) (Nat.mod_lt _ (by decide)) (fun M3 q3 f3 => ?_)
            have hP3 : PR M3 4 (xP s) := hP2.of (fun q _ _ => f3 q (by omega))
            refine s_hour hP3 I.1 q3 (gv_dst v2 hn _) (by decide) (by rw [hT_dst, hT_ssn]; omega) (fun M4 q4 f4 => ?_)
            simp only [forall_eq, nI_1]
            exact ih M4 q4 ((f2.tr f3).tr f4)
          · apply k47
            unfold B_NB_season_47
            have hP2 : PR M2 4 (xP s) := R.1.of (fun q _ _ => f2 q (by omega))
            have R2 : RX s M2 := rx_scr R (fun q hq => by unfold scr at hq; exact f2 q (by omega))
            have k := k M2 R2
            have v2 := gv_ssn (z := z) v I.1 hn n
            refine br_t (nI_le (Nat.le_refl _) (by omega)) (brn_c (fun c => ?_) (fun c => ?_))
            · rw [if_neg (fun y => c (by rw [y]; rfl))] at k
              exact s_coins hP2.1 h7 q2 k
            · rw [if_pos (nI_inj (b := 0) (by omega) (by decide) c)] at k
              exact s_many (w := 2) hP2.1 h7 q2 (fun g hg => by have := (v2.2 g hg).1; omega) (by decide) k
        exact L 0 (Nat.zero_le _) M1 q1 f1
theorem y_season {N : Mem} {p q w : Int32} {post : Int32 → Mem → Prop} (I : IX T s) (R : RM s N) (k : ∀ N', RM (fSeason s p q w).2 N' → post (fSeason s p q w).1 N') : P_MD_season N p q w post := by
  have h7 := I.1.1
  have hn := I.2.1
  have v := I.2.2.1.1
  have ht := I.2.2.1.2
  have hT20 : T < 2 ^ 20 := I.2.2.2.2.2.2.2.2.2.2.2
  intro R43 k43
  unfold B_MD_season_i
  unfold fSeason at k
  refine m_rg 0 9999 (by decide) (by decide) (by decide) (fun e => br_t rfl ?_) (fun z e z1 z2 ez => br_f (by decide) ?_)
  · rw [e] at k; exact k N R
  · rw [e] at k
    simp only at k
    refine m_rg 1 60 (by decide) (by decide) (by decide) (fun e => br_t rfl ?_) (fun n e n1 n2 en => br_f (by decide) ?_)
    · rw [e] at k; exact k N R
    · rw [e] at k
      simp only at k
      refine m_rg 0 1 (by decide) (by decide) (by decide) (fun e => brn_t rfl ?_) (fun x e x1 x2 ex => brn_f (by decide) ?_)
      · rw [e] at k; exact k N R
      · rw [e] at k
        simp only at k
        subst ez en ex
        refine m_tries I R (fun N1 Ra q1 km f1 => ?_)
        simp only [forall_eq]
        have L : ∀ i, i ≤ n → ∀ N2, MR N2 51 (pN (xP s)) (ssn (xP s) z i (xH s)) → FM 51 N1 N2 → R43 N2 (nI i) := by
          refine up_loop (fun i hi ih N2 q2 f2 => ?_) (fun N2 q2 f2 => ?_)
          · apply k43
            unfold B_MD_season_43
            have v2 := gv_ssn (z := z) v I.1 hn i
            have hP2 : PM N2 (xP s) := Ra.1.fr f2
            refine br_f (nI_ge hi (by omega)) ?_
            simp only [forall_eq]
            rw [drw_eq z2 (by omega)]
            refine m_dst hP2 I.1 hn q2 v2 (by rw [hT_ssn]; omega) (Nat.mod_lt _ (by decide)) (fun N3 q3 f3 => ?_)
            refine m_hour (r := 51) (hP2.fr f3) I.1 q3 (gv_dst v2 hn _) (by decide) (by rw [hT_dst, hT_ssn]; omega) (fun N4 q4 f4 => ?_)
            simp only [forall_eq, nI_1]
            exact ih N4 q4 ((f2.tr f3).tr f4)
          · apply k43
            unfold B_MD_season_43
            have hP2 : PM N2 (xP s) := Ra.1.fr f2
            have R2 : RM s N2 := rm_km Ra h7 f2.km I.2.2.2.2.2.1 I.2.2.2.2.2.2.1
            have k := k N2 R2
            have v2 := gv_ssn (z := z) v I.1 hn n
            refine br_t (nI_le (Nat.le_refl _) (by omega)) (brn_c (fun c => ?_) (fun c => ?_))
            · rw [if_neg (fun y => c (by rw [y]; rfl))] at k
              exact m_coins (r := 51) hP2.1 h7 q2 (by decide) k
            · rw [if_pos (nI_inj (b := 0) (by omega) (by decide) c)] at k
              exact m_many (r := 51) (w := 2) hP2.1 h7 q2 (by decide) (fun g hg => by have := (v2.2 g hg).1; omega) (by decide) k
        exact L 0 (Nat.zero_le _) N1 q1 FM.rf
end
