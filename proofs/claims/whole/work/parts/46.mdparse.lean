/-- cells of the model that reading changes -/
def GF (N N' : Mem) : Prop := (∀ i, i ≠ 13 → i ≠ 14 → i ≠ 15 → i ≠ 17 → N' 0 i = N 0 i) ∧ ∀ q, q ≠ 0 → q ≠ 9 → q ≠ 10 → N' q = N q
theorem GF.rf {N : Mem} : GF N N := ⟨fun _ _ _ _ _ => rfl, fun _ _ _ _ => rfl⟩
theorem GF.tr {N N1 N2 : Mem} (a : GF N N1) (b : GF N1 N2) : GF N N2 := ⟨fun i h1 h2 h3 h4 => (b.1 i h1 h2 h3 h4).trans (a.1 i h1 h2 h3 h4), fun q h1 h2 h3 => (b.2 q h1 h2 h3).trans (a.2 q h1 h2 h3)⟩
theorem GF.set0 {N N1 : Mem} {i : Nat} {v : Int32} (a : GF N N1) (h : i = 13 ∨ i = 14 ∨ i = 15 ∨ i = 17) : GF N (mset N1 0 i v) := ⟨fun j h1 h2 h3 h4 => by rw [ms_j (by omega)]; exact a.1 j h1 h2 h3 h4, fun q h1 h2 h3 => by rw [mset_ne h1]; exact a.2 q h1 h2 h3⟩
theorem GF.set9 {N N1 : Mem} {q i : Nat} {v : Int32} (a : GF N N1) (h : q = 9 ∨ q = 10) : GF N (mset N1 q i v) := ⟨fun j h1 h2 h3 h4 => by rw [ms_k (by omega)]; exact a.1 j h1 h2 h3 h4, fun r h1 h2 h3 => by rw [mset_ne (by omega)]; exact a.2 r h1 h2 h3⟩
theorem GF.km {N N' : Mem} (f : GF N N') : KM N N' := ⟨fun i hi => f.1 i (by omega) (by omega) (by omega) (by omega), fun i _ => by rw [f.2 1 (by decide) (by decide) (by decide)], fun q h1 h2 => f.2 q (by omega) (by omega) (by omega)⟩
/-- only place and number change -/
def KN (N N' : Mem) : Prop := (∀ i, i ≠ 13 → i ≠ 14 → N' 0 i = N 0 i) ∧ ∀ q, q ≠ 0 → N' q = N q
theorem KN.rf {N : Mem} : KN N N := ⟨fun _ _ _ => rfl, fun _ _ => rfl⟩
theorem KN.tr {N N1 N2 : Mem} (a : KN N N1) (b : KN N1 N2) : KN N N2 := ⟨fun i h1 h2 => (b.1 i h1 h2).trans (a.1 i h1 h2), fun q h1 => (b.2 q h1).trans (a.2 q h1)⟩
theorem KN.set {N N1 : Mem} {i : Nat} {v : Int32} (a : KN N N1) (h : i = 13 ∨ i = 14) : KN N (mset N1 0 i v) := ⟨fun j h1 h2 => by rw [ms_j (by omega)]; exact a.1 j h1 h2, fun q h1 => by rw [mset_ne h1]; exact a.2 q h1⟩
theorem KN.gf {N N' : Mem} (f : KN N N') : GF N N' := ⟨fun i h1 h2 _ _ => f.1 i h1 h2, fun q h1 _ _ => f.2 q h1⟩
def ml (x : List Nat) (i : Nat) : Int32 := if i < x.length then nI (lc x i) else -1
theorem TM.kn {N N' : Mem} {x : List Nat} (t : TM N x) (f : KN N N') : TM N' x := by
  unfold TM; rw [f.1 12 (by decide) (by decide), f.2 8 (by decide)]; exact t
theorem TM.gf {N N' : Mem} {x : List Nat} (t : TM N x) (f : GF N N') : TM N' x := by
  unfold TM; rw [f.1 12 (by decide) (by decide) (by decide) (by decide), f.2 8 (by decide) (by decide) (by decide)]; exact t
theorem lc_out {x : List Nat} {i : Nat} (h : x.length ≤ i) : lc x i = 0 := by
  unfold lc; rw [List.getD_eq_getElem?_getD, List.getElem?_eq_none h]; rfl
theorem ml_eq {x : List Nat} (hx : ∀ c, c ∈ x → c < 127) {i sg : Nat} (hs : 0 < sg) (hs2 : sg < 2 ^ 31) : ml x i = nI sg ↔ lc x i = sg := by
  unfold ml
  have h1 := lc_31 hx i
  by_cases c : i < x.length
  · rw [if_pos c]
    exact ⟨fun z => nI_inj (by omega) hs2 z, fun z => by rw [z]⟩
  · rw [if_neg c]
    rw [lc_out (by omega)]
    exact ⟨fun z => absurd z.symm (nI_nem1 hs2), fun z => absurd z (by omega)⟩
section
variable {N : Mem} {x : List Nat} {t : GT}
theorem m_letter {i : Nat} {post : Int32 → Mem → Prop} (tx : TM N x) (hl : x.length ≤ 200) (hi : i < 2 ^ 31) (k : post (ml x i) N) : P_MD_letterAt N (nI i) post := by
  unfold P_MD_letterAt B_MD_letterAt_i
  rw [tx.1]
  unfold ml at k
  by_cases c : i < x.length
  · rw [if_pos c] at k
    refine br_f (nI_ge c (by omega)) ⟨vin (by omega) (by decide), ?_⟩
    rw [cl hi, tx.2 i (lc x i) (by unfold lc; rw [List.getD_eq_getElem?_getD, List.getElem?_eq_getElem c]; rfl)]
    exact k
  · rw [if_neg c] at k
    exact br_t (nI_le (by omega) hi) k
theorem m_fig {i : Nat} {post : Int32 → Mem → Prop} (hx : ∀ c, c ∈ x → c < 127) (k1 : fg x i → i < x.length → post 1 N) (k0 : ¬ fg x i → post 0 N) : P_MD_in N (ml x i).toInt64 (48 : Int64) (57 : Int64) post := by
  have h1 := lc_31 hx i
  unfold ml
  by_cases c : i < x.length
  · rw [if_pos c]
    refine m_in (fun a b => ?_) (fun a => ?_)
    · rw [Int32.toInt_toInt64, nI_toInt (by omega)] at a b
      have a : (48 : Int) ≤ lc x i := a
      have b : (lc x i : Int) ≤ 57 := b
      exact k1 ⟨by omega, by omega⟩ c
    · rw [Int32.toInt_toInt64, nI_toInt (by omega)] at a
      have a : (lc x i : Int) < 48 ∨ (57 : Int) < lc x i := a
      exact k0 (fun z => by omega)
  · rw [if_neg c]
    have e : lc x i = 0 := lc_out (by omega)
    refine m_in (fun a b => ?_) (fun a => k0 (fun z => by have := z.1; omega))
    exact absurd a (by decide)
theorem m_number {i lo hi sg : Nat} {post : Int32 → Mem → Prop} (tx : TM N x) (hl : x.length ≤ 200) (hx : ∀ c, c ∈ x → c < 127) (hp : N 0 13 = nI i) (hi2 : i < 2 ^ 20) (hlo : lo < 100) (hhi : hi < 100) (hs : 0 < sg) (hs2 : sg < 127) (k0 : tkN x i lo hi sg = none → ∀ N', KN N N' → post 0 N') (k1 : ∀ r, tkN x i lo hi sg = some r → ∀ N', N' 0 13 = nI r.1 → N' 0 14 = nI r.2 → KN N N' → post 1 N') : P_MD_takesNumber N (nI lo) (nI hi) (nI sg) post := by
  intro R11 R79 k11 k79
  have h0 := lc_31 hx i
  have h1 := lc_31 hx (i + 1)
  have fin : ∀ (kf v : Nat) (N1 : Mem), kf ≤ 2 → v < 100 → N1 0 13 = nI (i + kf) → N1 0 14 = nI v → KN N N1 → (kf = 0 → tkN x i lo hi sg = none) → (0 < kf → tkN x i lo hi sg = if lo ≤ v ∧ v ≤ hi ∧ lc x (i + kf) = sg then some (i + kf + 1, v) else none) → R79 N1 (nI i) := by
    intro kf v N1 hk2 hv e1 e2 f et0 et
    apply k79
    unfold B_MD_takesNumber_79
    simp only [forall_eq]
    rw [e1, e2]
    by_cases z : kf = 0
    · subst z
      exact br_t rfl (k0 (et0 rfl) N1 f)
    · have et := et (by omega)
      refine br_f (fun y => z (by have := nI_inj (by omega) (by omega) y; omega)) ?_
      have c1 : (nI v).toInt64.toInt = v := by rw [Int32.toInt_toInt64, nI_toInt (by omega)]
      have c2 : (nI lo).toInt64.toInt = lo := by rw [Int32.toInt_toInt64, nI_toInt (by omega)]
      have c3 : (nI hi).toInt64.toInt = hi := by rw [Int32.toInt_toInt64, nI_toInt (by omega)]
      refine m_in (fun a b => br_f (by decide) ?_) (fun a => br_t rfl ?_)
      · rw [c1, c2] at a
        rw [c1, c3] at b
        rw [e1]
        refine m_letter (tx.kn f) hl (by omega) ?_
        by_cases cs : lc x (i + kf) = sg
        · refine br_t ((ml_eq hx hs (by omega)).mpr cs) ?_
          rw [if_pos ⟨by omega, by omega, cs⟩] at et
          rw [e1, nI_1]
          refine k1 _ et _ (ms_s _ _ _ _) (by rw [ms_j (by decide)]; exact e2) (f.set (Or.inl rfl))
        · refine br_f (fun y => cs ((ml_eq hx hs (by omega)).mp y)) ?_
          rw [if_neg (fun y => cs y.2.2)] at et
          exact k0 et N1 f
      · rw [c1, c2, c3] at a
        rw [if_neg (fun y => by omega)] at et
        exact k0 et N1 f
  unfold B_MD_takesNumber_i
  simp only [forall_eq]
  rw [hp]
  have f0 : KN N (mset N 0 14 0) := KN.rf.set (Or.inr rfl)
  have p0 : mset N 0 14 0 0 13 = nI i := by rw [ms_j (by decide)]; exact hp
  apply k11
  unfold B_MD_takesNumber_11
  rw [p0, show nI i - nI i = nI 0 from by rw [pk_sub (Nat.le_refl _), Nat.sub_self]]
  refine br_f (by decide) (m_letter (tx.kn f0) hl (by omega) (m_fig hx (fun q0 z0 => br_f (by decide) ?_) (fun q0 => br_t rfl ?_)))
  · rw [p0]
    refine m_letter (tx.kn f0) hl (by omega) ?_
    simp only [forall_eq]
    have q01 := q0.1
    have q02 := q0.2
    have ev : (10 * mset N 0 14 0 0 14 + ml x i) - 48 = nI (lc x i - 48) := by
      rw [ms_s, show (10 : Int32) * 0 = nI 0 from by decide]
      unfold ml
      rw [if_pos z0, nI_add, Nat.zero_add]
      exact pk_sub (b := 48) q01
    rw [ev, ms_j (by decide), p0, nI_1]
    generalize hN1 : mset (mset (mset N 0 14 0) 0 14 (nI (lc x i - 48))) 0 13 (nI (i + 1)) = N1
    have p1 : N1 0 13 = nI (i + 1) := by rw [← hN1, ms_s]
    have v1 : N1 0 14 = nI (lc x i - 48) := by rw [← hN1, ms_j (by decide), ms_s]
    have f1 : KN N N1 := by rw [← hN1]; exact (f0.set (Or.inr rfl)).set (Or.inl rfl)
    apply k11
    unfold B_MD_takesNumber_11
    rw [p1, show nI (i + 1) - nI i = nI 1 from by rw [pk_sub (by omega)]; exact congrArg nI (by omega)]
    refine br_f (by decide) (m_letter (tx.kn f1) hl (by omega) (m_fig hx (fun q1 z1 => br_f (by decide) ?_) (fun q1 => br_t rfl ?_)))
    · rw [p1]
      refine m_letter (tx.kn f1) hl (by omega) ?_
      simp only [forall_eq]
      have q11 := q1.1
      have q12 := q1.2
      have ev : (10 * N1 0 14 + ml x (i + 1)) - 48 = nI ((lc x i - 48) * 10 + (lc x (i + 1) - 48)) := by
        rw [v1, show (10 : Int32) = nI 10 from rfl, pk_mul]
        unfold ml
        rw [if_pos z1, nI_add, show (48 : Int32) = nI 48 from rfl, pk_sub (by omega)]
        exact congrArg nI (by omega)
      rw [ev, ms_j (by decide), p1, nI_1]
      generalize hN2 : mset (mset N1 0 14 (nI ((lc x i - 48) * 10 + (lc x (i + 1) - 48)))) 0 13 (nI (i + 1 + 1)) = N2
      have p2 : N2 0 13 = nI (i + 2) := by rw [← hN2, ms_s]
      have v2 : N2 0 14 = nI ((lc x i - 48) * 10 + (lc x (i + 1) - 48)) := by rw [← hN2, ms_j (by decide), ms_s]
      have f2 : KN N N2 := by rw [← hN2]; exact (f1.set (Or.inr rfl)).set (Or.inl rfl)
      apply k11
      unfold B_MD_takesNumber_11
      rw [p2, show nI (i + 2) - nI i = nI 2 from by rw [pk_sub (by omega)]; exact congrArg nI (by omega)]
      refine br_t (by decide) (fin 2 _ N2 (by decide) (by omega) p2 v2 f2 (fun z => by cases z) (fun _ => ?_))
      unfold tkN
      rw [if_pos q0, if_pos q1]
    · refine fin 1 _ N1 (by decide) (by omega) p1 v1 f1 (fun z => by cases z) (fun _ => ?_)
      unfold tkN
      rw [if_pos q0, if_neg q1]
  · refine fin 0 0 _ (by decide) (by decide) p0 (ms_s _ _ _ _) f0 (fun _ => ?_) (fun z => absurd z (by decide))
    unfold tkN
    rw [if_neg q0]
/-- what the model has read -/
def MD2 (N : Mem) (t : GT) : Prop := N 0 15 = nI t.1.length ∧ N 0 17 = nI t.2.length ∧ (∀ k, k < t.1.length → ∀ d, d < 5 → N 9 (5 * k + d) = nI ((t.1.getD k []).getD d 0)) ∧ ∀ k, k < 7 → N 10 k = nI (t.2.getD k 0)
theorem MD2.kn {N N' : Mem} {t : GT} (D : MD2 N t) (f : KN N N') : MD2 N' t := by
  unfold MD2; rw [f.1 15 (by decide) (by decide), f.1 17 (by decide) (by decide), f.2 9 (by decide), f.2 10 (by decide)]; exact D
theorem m_tGuest {i : Nat} {post : Int32 → Mem → Prop} (tx : TM N x) (hl : x.length ≤ 200) (hx : ∀ c, c ∈ x → c < 127) (hp : N 0 13 = nI i) (hi2 : i < 2 ^ 19) (D : MD2 N t) (h7 : t.1.length ≤ 7) (k0 : (t.1.length = 7 ∨ rdN x spG i = none) → ∀ N', GF N N' → post 0 N') (k1 : ∀ r, rdN x spG i = some r → t.1.length < 7 → ∀ N', N' 0 13 = nI r.1 → MD2 N' (t.1 ++ [r.2], t.2) → GF N N' → post 1 N') : P_MD_takesGuest N post := by
  intro R20 R35 R40 R81 R99 k20 k35 k40 k81 k99
  unfold B_MD_takesGuest_i
  rw [D.1]
  by_cases c7 : t.1.length = 7
  · exact brn_t (by rw [c7]; rfl) (k0 (Or.inl c7) N GF.rf)
  refine brn_f (fun z => c7 (nI_inj (b := 7) (by omega) (by decide) z)) ?_
  simp only [forall_eq]
  rw [show (5 : Int32) = nI 5 from rfl, pk_mul]
  -- one number
  have step : ∀ k, k < 5 → ∀ N1, P_MD_takesNumber N1 (nI (spG.getD k (0, 0)).1) (nI (spG.getD k (0, 0)).2) (nI (if (spG.drop (k + 1)).length = 0 then 59 else 44)) (fun r7 M6 => (((¬ r7 = 0) → vp_in (nI (5 * t.1.length) + nI k) 35 ∧ (∀ M8 : Mem, M8 = mset M6 9 ((nI (5 * t.1.length) + nI k)).toNatClampNeg (M6 0 14) → ∀ z9 : Int32, z9 = nI k + (1 : Int32) → (R20 M8 (nI (5 * t.1.length)) z9))) ∧ ((r7 = 0) → post (0 : Int32) M6))) → R20 N1 (nI (5 * t.1.length)) (nI k) := by
    intro k hk N1 h
    apply k20
    unfold B_MD_takesGuest_20
    refine br_f (nI_ge (b := 5) hk (by decide)) ?_
    rcases (show k = 0 ∨ k = 1 ∨ k = 2 ∨ k = 3 ∨ k = 4 by omega) with rfl | rfl | rfl | rfl | rfl
    · refine br_f (by decide) (brn_f (by decide) (k40 _ _ _ _ ?_))
      unfold B_MD_takesGuest_40
      simp only [forall_eq]
      refine brn_t (by decide) (k81 _ _ _ _ _ ?_)
      unfold B_MD_takesGuest_81
      simp only [forall_eq]
      exact brn_f (by decide) (k99 _ _ _ _ _ _ h)
    · refine br_f (by decide) (brn_f (by decide) (k40 _ _ _ _ ?_))
      unfold B_MD_takesGuest_40
      simp only [forall_eq]
      refine brn_f (by decide) (brn_t (by decide) (k81 _ _ _ _ _ ?_))
      unfold B_MD_takesGuest_81
      simp only [forall_eq]
      exact brn_f (by decide) (k99 _ _ _ _ _ _ h)
    · refine br_t (by decide) (k35 _ _ _ (k40 _ _ _ _ ?_))
      unfold B_MD_takesGuest_40
      simp only [forall_eq]
      refine brn_f (by decide) (brn_f (by decide) (brn_t (by decide) (k81 _ _ _ _ _ ?_)))
      unfold B_MD_takesGuest_81
      simp only [forall_eq]
      exact brn_f (by decide) (k99 _ _ _ _ _ _ h)
    · refine br_f (by decide) (brn_f (by decide) (k40 _ _ _ _ ?_))
      unfold B_MD_takesGuest_40
      simp only [forall_eq]
      refine brn_f (by decide) (brn_f (by decide) (brn_f (by decide) (brn_t (by decide) (k81 _ _ _ _ _ ?_))))
      unfold B_MD_takesGuest_81
      simp only [forall_eq]
      exact brn_f (by decide) (k99 _ _ _ _ _ _ h)
    · refine br_f (by decide) (brn_t (by decide) (k35 _ _ _ (k40 _ _ _ _ ?_)))
      unfold B_MD_takesGuest_40
      simp only [forall_eq]
      refine brn_f (by decide) (brn_f (by decide) (brn_f (by decide) (brn_f (by decide) (k81 _ _ _ _ _ ?_))))
      unfold B_MD_takesGuest_81
      simp only [forall_eq]
      exact brn_t (by decide) (k99 _ _ _ _ _ _ h)
  have hq : ∀ q, q ∈ spG → q.1 < 100 ∧ q.2 < 100 := by decide
  have L : ∀ d k, k + d = 5 → ∀ N1 at0 (l0 : List Nat), l0.length = k → N1 0 13 = nI at0 → at0 < 2 ^ 19 + 3 * k → GF N N1 → N1 0 15 = N 0 15 → N1 0 17 = N 0 17 → N1 10 = N 10 → (∀ j, j < 5 * t.1.length → N1 9 j = N 9 j) → (∀ j, j < k → N1 9 (5 * t.1.length + j) = nI (l0.getD j 0)) → (rdN x (spG.drop k) at0 = none → rdN x spG i = none) → (∀ r, rdN x (spG.drop k) at0 = some r → rdN x spG i = some (r.1, l0 ++ r.2)) → R20 N1 (nI (5 * t.1.length)) (nI k) := by
    intro d
    induction d with
    | zero =>
      intro k e N1 at0 l0 hl0 hp1 ha f g15 g17 g10 g9 g c0 c1
      have ek : k = 5 := by omega
      subst ek
      apply k20
      unfold B_MD_takesGuest_20
      refine br_t (by decide) ?_
      have e1 := c1 (at0, []) rfl
      rw [List.append_nil] at e1
      simp only [forall_eq]
      rw [g15, D.1, nI_1]
      refine k1 _ e1 (by omega) _ (by rw [ms_j (by decide)]; exact hp1) ⟨?_, ?_, fun j hj d hd => ?_, fun j hj => ?_⟩ (f.set0 (by omega))
      · rw [ms_s, List.length_append]; rfl
      · rw [ms_j (by decide), g17]; exact D.2.1
      · have hj : j < (t.1 ++ [l0]).length := hj
        rw [List.length_append] at hj
        have hj : j < t.1.length + 1 := hj
        show _ = nI (((t.1 ++ [l0]).getD j []).getD d 0)
        rw [ms_k (by decide)]
        by_cases e : j = t.1.length
        · subst e
          rw [getD_app_r]
          exact g d hd
        · rw [getD_app_o e, g9 _ (by omega)]
          exact D.2.2.1 j (by omega) d hd
      · rw [ms_k (by decide), g10]
        exact D.2.2.2 j hj
    | succ d ih =>
      intro k e N1 at0 l0 hl0 hp1 ha f g15 g17 g10 g9 g c0 c1
      have hk : k < spG.length := by show k < 5; omega
      have hqi := hq _ (mem_getD (d := (0, 0)) hk)
      have edrop : spG.drop k = spG.getD k (0, 0) :: spG.drop (k + 1) := by
        rw [List.getD_eq_getElem?_getD, List.getElem?_eq_getElem hk]
        exact List.drop_eq_getElem_cons hk
      have er : rdN x (spG.drop k) at0 = match tkN x at0 (spG.getD k (0, 0)).1 (spG.getD k (0, 0)).2 (if (spG.drop (k + 1)).length = 0 then 59 else 44) with
          | none => none
          | some r => match rdN x (spG.drop (k + 1)) r.1 with
            | none => none
            | some t => some (t.1, r.2 :: t.2) := by
        rw [edrop, rdN]
        rfl
      refine step k (by omega) N1 (m_number (tx.gf f) hl hx hp1 (by omega) hqi.1 hqi.2 (by split <;> decide) (by split <;> decide) (fun et N2 f2 => ⟨fun z => absurd rfl z, fun _ => k0 (Or.inr (c0 (by rw [er, et]))) N2 (f.tr f2.gf)⟩) (fun r et N2 p2 v2 f2 => ⟨fun _ => ⟨by rw [nI_add]; exact vin (by omega) (by decide), ?_⟩, fun z => absurd z (by decide)⟩))
      simp only [forall_eq]
      rw [nI_add, cl (by omega), nI_1, v2]
      have hr := tkN_lt et
      refine ih (k + 1) (by omega) _ r.1 (l0 ++ [r.2]) (by rw [List.length_append, hl0]; rfl) (by rw [ms_k (by decide)]; exact p2) (by omega) ((f.tr f2.gf).set9 (Or.inl rfl)) ?_ ?_ ?_ (fun j hj => ?_) (fun j hj => ?_) (fun z => c0 (by rw [er, et]; simp only; rw [z])) (fun q z => ?_)
      · rw [ms_k (by decide), f2.1 15 (by decide) (by decide)]; exact g15
      · rw [ms_k (by decide), f2.1 17 (by decide) (by decide)]; exact g17
      · rw [mset_ne (by decide), f2.2 10 (by decide)]; exact g10
      · rw [ms_j (by omega), f2.2 9 (by decide)]; exact g9 j hj
      · by_cases ej : j = k
        · subst ej
          rw [ms_s, List.getD_eq_getElem?_getD, List.getElem?_append_right (by omega), hl0, Nat.sub_self]; rfl
        · rw [ms_j (by omega), f2.2 9 (by decide), g j (by omega), List.getD_eq_getElem?_getD, List.getD_eq_getElem?_getD, List.getElem?_append_left (by omega)]
      · have := c1 (q.1, r.2 :: q.2) (by rw [er, et]; simp only; rw [z])
        rw [this, List.append_assoc]; rfl
  exact L 5 0 rfl N i [] rfl hp (by omega) GF.rf rfl rfl rfl (fun _ _ => rfl) (fun j hj => absurd hj (Nat.not_lt_zero _)) (fun z => z) (fun r z => by rw [List.nil_append]; exact z)
theorem m_addR {post : Mem → Prop} {v : Nat} (D : MD2 N t) (h7 : t.2.length < 7) (k : ∀ N', MD2 N' (t.1, t.2 ++ [v]) → GF N N' → (N' 0 13 = N 0 13) → post N') : P_MD_addsRoom N (nI v) post := by
  unfold P_MD_addsRoom B_MD_addsRoom_i
  obtain ⟨d1, d2, d3, d4⟩ := D
  rw [d2]
  refine ⟨vin (by omega) (by decide), ?_⟩
  simp (disch := omega) only [cl, forall_eq, ms_k, d2, nI_1]
  refine k _ ⟨?_, ?_, fun j hj d hd => ?_, fun j hj => ?_⟩ ((GF.rf.set9 (by omega)).set0 (by omega)) ?_
  · rw [ms_j (by decide), ms_k (by decide)]; exact d1
  · rw [ms_s, List.length_append]; rfl
  · rw [ms_k (by decide), ms_k (by decide)]; exact d3 j hj d hd
  · rw [ms_k (by decide)]
    show _ = nI ((t.2 ++ [v]).getD j 0)
    by_cases e : j = t.2.length
    · subst e; rw [ms_s, getD_app_r]
    · rw [ms_j e, getD_app_o e]; exact d4 j hj
  · rw [ms_j (by decide), ms_k (by decide)]
theorem m_item {i : Nat} {post : Int32 → Mem → Prop} (tx : TM N x) (hl : x.length ≤ 200) (hx : ∀ c, c ∈ x → c < 127) (hp : N 0 13 = nI i) (hi : i < 2 ^ 18) (D : MD2 N t) (o : okT t) (k0 : itm x i t = none → ∀ N', GF N N' → post 0 N') (k1 : ∀ r, itm x i t = some r → ∀ N', N' 0 13 = nI r.1 → MD2 N' r.2 → GF N N' → post 1 N') : P_MD_takesItem N post := by
  unfold P_MD_takesItem B_MD_takesItem_i
  rw [hp]
  refine m_letter tx hl (by omega) ?_
  simp only [forall_eq]
  rw [hp, nI_1]
  generalize hN1 : mset N 0 13 (nI (i + 1)) = N1
  have p1 : N1 0 13 = nI (i + 1) := by rw [← hN1, ms_s]
  have f1 : KN N N1 := by rw [← hN1]; exact KN.rf.set (Or.inl rfl)
  have D1 := D.kn f1
  by_cases c : lc x i = 103
  · refine brn_t ((ml_eq (sg := 103) hx (by decide) (by decide)).mpr c) ?_
    refine m_tGuest (tx.kn f1) hl hx p1 (by omega) D1 o.1 (fun z N2 f2 => ⟨rfl, k0 ?_ N2 (f1.gf.tr f2)⟩) (fun r e z N2 p2 D2 f2 => ⟨rfl, k1 (r.1, (t.1 ++ [r.2], t.2)) ?_ N2 p2 D2 (f1.gf.tr f2)⟩)
    · unfold itm
      rw [if_pos c]
      cases e : rdN x spG (i + 1) with
      | none => rfl
      | some r =>
        rcases z with z | z
        · simp only; rw [if_pos z]
        · rw [e] at z; cases z
    · unfold itm; rw [if_pos c, e]; simp only; rw [if_neg (by omega)]
  · refine brn_f (fun z => c ((ml_eq (sg := 103) hx (by decide) (by decide)).mp z)) ?_
    by_cases d : lc x i = 114
    · refine brn_t ((ml_eq (sg := 114) hx (by decide) (by decide)).mpr d) ?_
      unfold P_MD_takesRoom B_MD_takesRoom_i
      rw [D1.2.1]
      by_cases c7 : t.2.length = 7
      · refine br_t (by rw [c7]; rfl) (br_t rfl (k0 ?_ N1 f1.gf))
        unfold itm
        rw [if_neg c, if_pos d]
        cases e : rdN x spR (i + 1) with
        | none => rfl
        | some r => simp only; rw [if_pos c7]
      · have h7 := o.2.1
        refine br_f (fun z => c7 (nI_inj (b := 7) (by omega) (by decide) z)) ?_
        have er : rdN x spR (i + 1) = match tkN x (i + 1) 0 9 59 with
          | none => none
          | some r => some (r.1, [r.2]) := by
          unfold spR
          rw [rdN]
          rfl
        refine m_number (lo := 0) (hi := 9) (sg := 59) (tx.kn f1) hl hx p1 (by omega) (by decide) (by decide) (by decide) (by decide) (fun et N2 f2 => ⟨fun z => absurd rfl z, fun _ => br_t rfl (k0 ?_ N2 (f1.tr f2).gf)⟩) (fun r et N2 p2 v2 f2 => ⟨fun _ => ?_, fun z => absurd z (by decide)⟩)
        · unfold itm; rw [if_neg c, if_pos d, er, et]
        · rw [v2]
          refine m_addR (D1.kn f2) (by omega) (fun N3 D3 f3 p3 => br_f (by decide) (k1 (r.1, (t.1, t.2 ++ [r.2])) ?_ N3 (p3.trans p2) D3 ((f1.tr f2).gf.tr f3)))
          unfold itm; rw [if_neg c, if_pos d, er, et]; simp only; rw [if_neg c7]; rfl
    · refine brn_f (fun z => d ((ml_eq (sg := 114) hx (by decide) (by decide)).mp z)) (k0 ?_ N1 f1.gf)
      unfold itm; rw [if_neg c, if_neg d]
theorem m_starts {post : Mem → Prop} (k : ∀ N', MD2 N' ([], []) → GF N N' → post N') : P_MD_starts N post := by
  intro R12 k12
  have L : ∀ i, i ≤ 7 → ∀ N1, (N1 0 15 = 0 ∧ N1 0 17 = 0 ∧ ∀ j, j < i → N1 10 j = 0) → GF N N1 → R12 N1 (nI i) := by
    refine up_loop (fun i hi ih N1 q f => ?_) (fun N1 q f => ?_)
    · apply k12
      unfold B_MD_starts_12
      simp (disch := omega) only [cl, nI_1, forall_eq]
      refine br_f (nI_ge (b := 7) hi (by decide)) ⟨vin (by omega) (by decide), ih _ ⟨?_, ?_, fun j hj => ?_⟩ (f.set9 (by omega))⟩
      · rw [ms_k (by decide)]; exact q.1
      · rw [ms_k (by decide)]; exact q.2.1
      · by_cases e : j = i
        · subst e; exact ms_s _ _ _ _
        · rw [ms_j e]; exact q.2.2 j (by omega)
    · apply k12
      unfold B_MD_starts_12
      refine br_t (nI_le (Nat.le_refl 7) (by decide)) (k N1 ⟨q.1, q.2.1, fun j hj => absurd hj (Nat.not_lt_zero _), fun j hj => ?_⟩ f)
      rw [q.2.2 j hj]
      cases j <;> rfl
  unfold B_MD_starts_i
  simp only [forall_eq]
  exact L 0 (by decide) _ ⟨by rw [ms_j (by decide), ms_s], ms_s _ _ _ _, fun j hj => absurd hj (Nat.not_lt_zero _)⟩ ((GF.rf.set0 (by omega)).set0 (by omega))
theorem m_faultOf {post : Int32 → Mem → Prop} (tx : TM N x) (hl : x.length ≤ 200) (hx : ∀ c, c ∈ x → c < 127) (k0 : ∀ i, prs x 201 0 ([], []) = .inl i → i < 2 ^ 31 → ∀ N', GF N N' → post (nI i) N') (k1 : ∀ t, prs x 201 0 ([], []) = .inr t → okT t → ∀ N', MD2 N' t → GF N N' → post (-4) N') : P_MD_faultOf N post := by
  intro R9 k9
  have L : ∀ d i (t : GT) N1, x.length < i + d → i ≤ x.length + 16 → okT t → N1 0 13 = nI i → MD2 N1 t → GF N N1 → prs x d i t = prs x 201 0 ([], []) → R9 N1 := by
    intro d
    induction d with
    | zero =>
      intro i t N1 e1 e2 o p D f ep
      apply k9
      unfold B_MD_faultOf_9
      rw [p, (tx.gf f).1]
      exact br_t (nI_le (by omega) (by omega)) (k1 t ep.symm o N1 D f)
    | succ d ih =>
      intro i t N1 e1 e2 o p D f ep
      apply k9
      unfold B_MD_faultOf_9
      rw [p, (tx.gf f).1]
      unfold prs at ep
      by_cases c2 : x.length ≤ i
      · rw [if_pos c2] at ep
        exact br_t (nI_le c2 (by omega)) (k1 t ep.symm o N1 D f)
      · rw [if_neg c2] at ep
        refine br_f (nI_ge (by omega) (by omega)) ?_
        simp only [forall_eq]
        refine m_item (tx.gf f) hl hx p (by omega) D o (fun e N2 f2 => ?_) (fun r e N2 p2 D2 f2 => ?_)
        · rw [e] at ep
          exact ⟨fun z => absurd rfl z, fun _ => k0 i ep.symm (by omega) N2 (f.tr f2)⟩
        · obtain ⟨r1, r2, r3⟩ := itm_ok o e
          rw [e] at ep
          exact brn_f (by decide) (ih r.1 r.2 N2 (by omega) (by omega) r3 p2 D2 (f.tr f2) ep)
  unfold B_MD_faultOf_i
  refine m_starts (fun N1 D f => ?_)
  simp only [forall_eq]
  refine L 201 0 ([], []) _ (by omega) (Nat.zero_le _) ⟨Nat.zero_le _, Nat.zero_le _, ⟨fun l h => absurd h List.not_mem_nil, fun l h => absurd h List.not_mem_nil⟩⟩ (ms_s _ _ _ _) ?_ (f.set0 (Or.inl rfl)) rfl
  unfold MD2
  rw [ms_j (by decide), ms_j (by decide), mset_ne (by decide), mset_ne (by decide)]
  exact D
end
