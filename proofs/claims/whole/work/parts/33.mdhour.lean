theorem a0 (r : Nat) : nI r + 0 = nI r := nI_add r 0
theorem a1 (r : Nat) : nI r + 1 = nI (r + 1) := nI_add r 1
theorem a2 (r : Nat) : nI r + 2 = nI (r + 2) := nI_add r 2
theorem a9 (r : Nat) : nI r + 9 = nI (r + 9) := nI_add r 9
theorem a16 (r : Nat) : nI r + 16 = nI (r + 16) := nI_add r 16
theorem a23 (r : Nat) : nI r + 23 = nI (r + 23) := nI_add r 23
theorem a30 (r : Nat) : nI r + 30 = nI (r + 30) := nI_add r 30
theorem a37 (r : Nat) : nI r + 37 = nI (r + 37) := nI_add r 37
theorem a44 (r : Nat) : nI r + 44 = nI (r + 44) := nI_add r 44
theorem lg_lt0 (x y : Int64) : lg_cmp x y < 0 ↔ x.toInt < y.toInt := by
  unfold lg_cmp
  by_cases h1 : x > y
  · rw [if_pos h1]
    have := Int64.lt_iff_toInt_lt.mp h1
    exact ⟨fun q => absurd q (by decide), fun q => by omega⟩
  · rw [if_neg h1]
    by_cases h2 : x = y
    · rw [if_pos h2, h2]
      exact ⟨fun q => absurd q (by decide), fun q => by omega⟩
    · rw [if_neg h2]
      have h3 : ¬ y.toInt < x.toInt := fun q => h1 (Int64.lt_iff_toInt_lt.mpr q)
      have h4 : ¬ x.toInt = y.toInt := fun q => h2 (Int64.toInt_inj.mp q)
      exact ⟨fun _ => by omega, fun _ => by decide⟩
theorem lg_gt0 (x y : Int64) : 0 < lg_cmp x y ↔ y.toInt < x.toInt := by
  unfold lg_cmp
  by_cases h1 : x > y
  · rw [if_pos h1]
    exact ⟨fun _ => Int64.lt_iff_toInt_lt.mp h1, fun _ => by decide⟩
  · rw [if_neg h1]
    have h3 : ¬ y.toInt < x.toInt := fun q => h1 (Int64.lt_iff_toInt_lt.mpr q)
    by_cases h2 : x = y
    · rw [if_pos h2]
      exact ⟨fun q => absurd q (by decide), fun q => absurd q h3⟩
    · rw [if_neg h2]
      exact ⟨fun q => absurd q (by decide), fun q => absurd q h3⟩
theorem m_in {M : Mem} {x lo hi : Int64} {post : Int32 → Mem → Prop} (h1 : lo.toInt ≤ x.toInt → x.toInt ≤ hi.toInt → post 1 M) (h0 : (x.toInt < lo.toInt ∨ hi.toInt < x.toInt) → post 0 M) : P_MD_in M x lo hi post := by
  unfold P_MD_in B_MD_in_i
  refine br_c (fun c => h0 (Or.inl ((lg_lt0 _ _).mp c))) (fun c => br_c (fun d => h0 (Or.inr ((lg_gt0 _ _).mp d))) (fun d => h1 ?_ ?_))
  · exact Int.not_lt.mp (fun q => c ((lg_lt0 x lo).mpr q))
  · exact Int.not_lt.mp (fun q => d ((lg_gt0 x hi).mpr q))
theorem nI_ofInt {x : Int32} {k : Nat} (hk : k < 2 ^ 31) (h : x.toInt = k) : x = nI k := Int32.toInt_inj.mp (by rw [h, nI_toInt hk])
theorem m_guest {N : Mem} {n : Nat} {p : Int32} {post : Int32 → Mem → Prop} (hn : N 0 3 = nI n) (h7 : n ≤ 7) (h1 : ∀ g, g < n → p = nI g → post 1 N) (h0 : (∀ g, g < n → ¬ p = nI g) → post 0 N) : P_MD_isGuest N p post := by
  unfold P_MD_isGuest B_MD_isGuest_i
  have e1 : ((nI n - 1).toInt64).toInt = (n : Int) - 1 := by rw [Int32.toInt_toInt64]; exact pk_sub_toInt (a := n) (b := 1) (by omega) (by decide)
  rw [hn]
  refine m_in (fun a b => ⟨rfl, ?_⟩) (fun a => ⟨rfl, h0 (fun g hg e => ?_)⟩)
  · rw [Int32.toInt_toInt64] at a b
    rw [e1] at b
    have a : (0 : Int) ≤ p.toInt := a
    exact h1 p.toInt.toNat (by omega) (nI_ofInt (by omega) (by omega))
  · rw [e1, Int32.toInt_toInt64, e, nI_toInt (by omega)] at a
    have a : ((g : Int) < 0 ∨ (n : Int) - 1 < g) := a
    omega
theorem m_guest_t {N : Mem} {n g : Nat} {post : Int32 → Mem → Prop} (hn : N 0 3 = nI n) (h7 : n ≤ 7) (hg : g < n) (k : post 1 N) : P_MD_isGuest N (nI g) post :=
  m_guest hn h7 (fun _ _ _ => k) (fun q => absurd rfl (q g hg))
theorem m_has {N : Mem} {m j : Nat} {post : Int32 → Mem → Prop} (hm : m < 2 ^ 31) (hj : j < 7) (h1 : m / 2 ^ j % 2 = 1 → post 1 N) (h0 : ¬ m / 2 ^ j % 2 = 1 → post 0 N) : P_MD_has N (nI m) (nI j) post := by
  unfold P_MD_has B_MD_has_i
  exact brn_c (fun c => h0 (fun z => c ((tb_has hm hj).mpr z))) (fun c => h1 ((tb_has hm hj).mp c))
theorem m_brings {N : Mem} {r g : Nat} {P : PT} {h : HT} {post : Int32 → Mem → Prop} (hP : PM N P) (pw : PW P) (hh : MR N r (pN P) h) (hr : r + 51 ≤ 612) (hg : g < pN P) (k : post (nI (brg P h g)) N) : P_MD_bringsIn N (nI r) (nI g) post := by
  have h7 := pw.1
  have h31 : g < 2 ^ 31 := by omega
  obtain ⟨e1, e2, -, -⟩ := hP.2 g hg
  obtain ⟨-, -, e3, -⟩ := hh.2.2 g hg
  obtain ⟨q1, ⟨q2, q3⟩, -⟩ := pw.2 g hg
  unfold P_MD_bringsIn B_MD_bringsIn_i
  simp (disch := omega) only [a16, nI_add, cl, forall_eq]
  rw [e1, e2, e3]
  unfold brg at k
  refine ⟨vin (by omega) (by decide), ?_⟩
  by_cases c1 : pK P g = 1
  · rw [if_pos c1] at k
    refine brn_t (by rw [c1]; rfl) ⟨vin (by omega) (by decide), vin (by omega) (by decide), ?_⟩
    rw [l2, pk_mul, nI_add]
    exact k
  · rw [if_neg c1] at k
    refine brn_f (fun e => c1 (nI_inj (b := 1) (by omega) (by decide) e)) ⟨vin (by omega) (by decide), ?_⟩
    by_cases c3 : pK P g = 3
    · rw [if_pos c3] at k
      refine brn_t (by rw [c3]; rfl) ⟨vin (by omega) (by decide), vin (by omega) (by decide), ?_⟩
      rw [half_nI (by omega), nI_add]
      exact k
    · rw [if_neg c3] at k
      refine brn_f (fun e => c3 (nI_inj (b := 3) (by omega) (by decide) e)) ⟨vin (by omega) (by decide), vin (by omega) (by decide), ?_⟩
      rw [nI_add]
      exact k
theorem m_comes {N : Mem} {r g : Nat} {P : PT} {h : HT} {post : Mem → Prop} (hP : PM N P) (pw : PW P) (hh : MR N r (pN P) h) (hr : r + 51 ≤ 612) (hw : ∀ c, hC h = some c → c < pN P) (hg : g < pN P) (k : ∀ N', MR N' r (pN P) (cm P h g) → FM r N N' → post N') : P_MD_comes N (nI r) (nI g) post := by
  have h7 := pw.1
  intro R64 k64
  have key : ∀ N1, MR N1 r (pN P) (cmC P h g) → FM r N N1 → R64 N1 := by
    intro M1 q f
    apply k64
    unfold B_MD_comes_64
    have e1 := ((hP.fr f).2 g hg).1
    have q1 := (pw.2 g hg).1
    simp (disch := omega) only [a1, a2, nI_add, cl, forall_eq]
    rw [e1]
    refine ⟨vin (by omega) (by decide), ?_⟩
    by_cases c2 : pK P g = 2
    · refine brn_t (by rw [c2]; rfl) ⟨vin (by omega) (by decide), ?_⟩
      refine k _ ?_ (f.set (by omega) (by omega))
      unfold cm
      rw [if_pos c2]
      exact MR.sW (x := 2) q h7 hg
    · refine brn_f (fun e => c2 (nI_inj (b := 2) (by omega) (by decide) e)) ⟨vin (by omega) (by decide), vin (by omega) (by decide), ?_⟩
      refine k _ ?_ ((f.set (by omega) (by omega)).set (by omega) (by omega))
      unfold cm
      rw [if_neg c2]
      exact MR.sC (x := some g) (MR.sW (x := 1) q h7 hg)
  unfold B_MD_comes_i
  simp (disch := omega) only [a1, cl, forall_eq]
  rw [hh.2.1]
  refine ⟨vin (by omega) (by decide), ?_⟩
  cases e : hC h with
  | none =>
    refine br_t rfl (key N ?_ FM.rf)
    unfold cmC; rw [e]; exact hh
  | some c =>
    have hc := hw c e
    refine br_f (nI_ne4 (by omega)) ?_
    show vp_in ((nI r + 23) + nI c) 612 ∧ _
    simp only [show oI (some c) = nI c from rfl]
    simp (disch := omega) only [a23, a30, a37, nI_add, cl, forall_eq]
    refine ⟨vin (by omega) (by decide), m_brings hP pw hh hr hg ⟨vin (by omega) (by decide), vin (by omega) (by decide), vin (by omega) (by decide), vin (by omega) (by decide), ?_⟩⟩
    obtain ⟨-, -, -, k4, -, k6, -⟩ := hh.2.2 c hc
    refine key _ ?_ (((FM.rf.set (by omega) (by omega)).set (by omega) (by omega)).set (by omega) (by omega))
    unfold cmC
    rw [e]
    rw [ms_n (M := N) (i := r + 23 + c) (j := r + 37 + c) (Or.inr (by omega)), k4, k6, nI_add, shlb g (by omega), or_nI]
    exact MR.sB (x := some c) (MR.sS (MR.sD hh h7 hc) h7 hc) h7 hg
theorem m_free {N : Mem} {r g : Nat} {P : PT} {h : HT} {post : Mem → Prop} (hP : PM N P) (pw : PW P) (hh : MR N r (pN P) h) (hr : r + 51 ≤ 612) (hb : ∀ c, hB h g = some c → c < pN P) (hs : hS h g < 2 ^ 31) (hg : g < pN P) (k : ∀ N', MR N' r (pN P) (fr P h g) → FM r N N' → post N') : P_MD_goesFree N (nI r) (nI g) post := by
  have h7 := pw.1
  intro R13 k13
  have loop : ∀ i, i ≤ pN P → ∀ N1, MR N1 r (pN P) (sG (sW h g 2) g (tps P (hS h g) i (hG h g))) → FM r N N1 → R13 N1 (nI i) := by
    refine up_loop (fun i hi ih M1 q f => ?_) (fun M1 q f => ?_)
    · apply k13
      unfold B_MD_goesFree_13
      have hP1 := hP.fr f
      obtain ⟨-, -, -, -, -, k6, k7⟩ := q.2.2 g hg
      have k6 : M1 1 (r + 37 + g) = nI (hS h g) := k6
      have e4 := (hP1.2 i hi).2.2.1
      simp (disch := omega) only [a44, a37, nI_1, nI_add, cl, forall_eq]
      rw [hP1.1, k6, k7, hG_s]
      refine br_f (nI_ge hi (by omega)) ⟨vin (by omega) (by decide), vin (by omega) (by decide), ?_⟩
      refine m_has hs (by omega) (fun c => ?_) (fun c => ?_)
      · refine br_f (by decide) ⟨vin (by omega) (by decide), vin (by omega) (by decide), ?_⟩
        refine ih _ ?_ (f.set (by omega) (by omega))
        have q2 := q.sG (g := g) (x := tps P (hS h g) i (hG h g) + nI (pT P i)) h7 hg
        rw [sG_sG] at q2
        rw [tps, if_pos c, e4]
        exact q2
      · refine br_t rfl ⟨vin (by omega) (by decide), ?_⟩
        refine ih _ ?_ (f.set (by omega) (by omega))
        have q2 := q.sG (g := g) (x := tps P (hS h g) i (hG h g) + 0) h7 hg
        rw [sG_sG] at q2
        rw [tps, if_neg c]
        rw [Int32.add_zero] at q2 ⊢
        exact q2
    · apply k13
      unfold B_MD_goesFree_13
      have hP1 := hP.fr f
      obtain ⟨-, -, -, -, k5, -, k7⟩ := q.2.2 g hg
      have k5 : M1 1 (r + 30 + g) = oI (hB h g) := k5
      simp (disch := omega) only [a44, a30, nI_1, nI_add, cl, forall_eq]
      rw [hP1.1, k5]
      refine br_t (nI_le (Nat.le_refl _) (by omega)) ⟨vin (by omega) (by decide), ?_⟩
      cases e : hB h g with
      | none =>
        refine br_t rfl (k _ ?_ f)
        unfold fr; rw [e]; exact q
      | some c =>
        have hc := hb c e
        simp only [show oI (some c) = nI c from rfl]
        refine br_f (nI_ne4 (by omega)) ⟨vin (by omega) (by decide), vin (by omega) (by decide), vin (by omega) (by decide), ?_⟩
        simp (disch := omega) only [nI_add, cl]
        refine ⟨vin (by omega) (by decide), vin (by omega) (by decide), ?_⟩
        refine k _ ?_ ((f.set (by omega) (by omega)).set (by omega) (by omega))
        have q1 := q.sG (g := g) (x := M1 1 (r + 44 + g) - M1 1 (r + 44 + g) / 2) h7 hg
        have e7 := (q1.2.2 c hc).2.2.2.2.2.2
        have q2 := q1.sG (g := c) (x := mset M1 1 (r + 44 + g) (M1 1 (r + 44 + g) - M1 1 (r + 44 + g) / 2) 1 (r + 44 + c) + M1 1 (r + 44 + g) / 2) h7 hc
        rw [e7, k7] at q2
        unfold fr
        rw [e]
        rw [e7, k7]
        exact q2
  unfold B_MD_goesFree_i
  simp (disch := omega) only [a2, nI_add, cl, forall_eq]
  refine ⟨vin (by omega) (by decide), loop 0 (Nat.zero_le _) _ ?_ (FM.rf.set (by omega) (by omega))⟩
  have q := MR.sW (g := g) (x := 2) hh h7 hg
  have e : sG (sW h g 2) g (tps P (hS h g) 0 (hG h g)) = sW h g 2 := by
    unfold tps sG sW
    refine congrArg (fun f => (h.1, h.2.1, va_up h.2.2.1 g 2, h.2.2.2.1, h.2.2.2.2.1, h.2.2.2.2.2.1, h.2.2.2.2.2.2.1, h.2.2.2.2.2.2.2.1, f)) ?_
    funext j
    unfold va_up
    by_cases e : j = g
    · rw [if_pos e, e]; rfl
    · rw [if_neg e]
  rw [e]
  exact q

theorem m_frees {N : Mem} {r : Nat} {P : PT} {h : HT} {post : Mem → Prop} (hP : PM N P) (pw : PW P) (hh : MR N r (pN P) h) (v : GV P h) (hr : r + 51 ≤ 612) (k : ∀ N', MR N' r (pN P) (ps3 P (pN P) h) → FM r N N' → post N') : P_MD_freesThose N (nI r) post := by
  have h7 := pw.1
  intro R2 k2
  have L : ∀ i, i ≤ pN P → ∀ N1, MR N1 r (pN P) (ps3 P i h) → FM r N N1 → R2 N1 (nI i) := by
    refine up_loop (fun i hi ih M1 q f => ?_) (fun M1 q f => ?_)
    · apply k2
      unfold B_MD_freesThose_2
      have hP1 := hP.fr f
      have v3 := gv_ps3 v i
      obtain ⟨b1, b2, b3, b4⟩ := gv_b v3 pw hi
      obtain ⟨e1, -, -, e4, -, -, -⟩ := q.2.2 i hi
      simp (disch := omega) only [a1, a2, a23, nI_1, nI_add, cl, forall_eq]
      rw [hP1.1, e1, e4, q.2.1]
      refine br_f (nI_ge hi (by omega)) ⟨vin (by omega) (by decide), ?_⟩
      by_cases c1 : hW (ps3 P i h) i = 1
      · refine brn_t (by rw [c1]; rfl) ⟨vin (by omega) (by decide), ?_⟩
        by_cases c2 : hC (ps3 P i h) = some i
        · refine br_t (by rw [c2]; rfl) (ih _ ?_ f)
          rw [ps3, if_neg (fun z => z.2.1 c2)]; exact q
        · refine br_f (fun z => c2 ?_) ⟨vin (by omega) (by decide), ?_⟩
          · cases c3 : hC (ps3 P i h) with
            | none => rw [c3] at z; exact absurd z.symm (nI_ne4 (by omega))
            | some c =>
              rw [c3] at z
              have hc := (v3.1 c c3).1
              rw [nI_inj (by omega) (by omega) z]
          · by_cases c3 : hD (ps3 P i h) i = 0
            · refine brn_t (by rw [c3]; rfl) ?_
              refine m_free hP1 pw q hr (v3.2 i hi).2.2.2.2.1 b2 hi (fun M2 q2 f2 => ih _ ?_ (f.tr f2))
              rw [ps3, if_pos ⟨c1, c2, c3⟩]; exact q2
            · refine brn_f (fun z => c3 (nI_inj (b := 0) (by omega) (by decide) z)) (ih _ ?_ f)
              rw [ps3, if_neg (fun z => c3 z.2.2)]; exact q
      · refine brn_f (fun z => c1 (nI_inj (b := 1) b3 (by decide) z)) (ih _ ?_ f)
        rw [ps3, if_neg (fun z => c1 z.1)]; exact q
    · apply k2
      unfold B_MD_freesThose_2
      have hP1 := hP.fr f
      rw [hP1.1]
      exact br_t (nI_le (Nat.le_refl _) (by omega)) (k _ q f)
  unfold B_MD_freesThose_i
  simp only [forall_eq]
  exact L 0 (Nat.zero_le _) _ hh FM.rf
theorem m_hour {N : Mem} {r : Nat} {P : PT} {h : HT} {post : Mem → Prop} (hP : PM N P) (pw : PW P) (hh : MR N r (pN P) h) (v : GV P h) (hr : r + 51 ≤ 612) (ht : hT h < 2 ^ 30) (k : ∀ N', MR N' r (pN P) (pss P h) → FM r N N' → post N') : P_MD_passes N (nI r) post := by
  have h7 := pw.1
  intro R2 R59 k2 k59
  have v1 := gv_ps1 v pw (pN P) (Nat.le_refl _)
  have v2 := gv_ps2 v1 (pN P)
  have L2 : ∀ i, i ≤ pN P → ∀ N1, MR N1 r (pN P) (ps2 P i (ps1 P (pN P) h)) → FM r N N1 → R59 N1 (nI i) := by
    refine up_loop (fun i hi ih M1 q f => ?_) (fun M1 q f => ?_)
    · apply k59
      unfold B_MD_passes_59
      have hP1 := hP.fr f
      have v3 := gv_ps2 v1 i
      obtain ⟨b1, b2, b3, b4⟩ := gv_b v3 pw hi
      obtain ⟨e1, -, -, e4, -, -, -⟩ := q.2.2 i hi
      have es := (hP1.2 i hi).2.2.2
      have hs := (pw.2 i hi).2.2.2
      simp (disch := omega) only [a0, a2, a23, nI_1, nI_add, cl, forall_eq]
      rw [hP1.1, e1, e4, es]
      refine br_f (nI_ge hi (by omega)) ⟨vin (by omega) (by decide), ?_⟩
      by_cases c1 : hW (ps2 P i (ps1 P (pN P) h)) i = 1
      · refine brn_t (by rw [c1]; rfl) ⟨vin (by omega) (by decide), vin (by omega) (by decide), ?_⟩
        by_cases c2 : hD (ps2 P i (ps1 P (pN P) h)) i ≤ pS P i
        · refine br_t (nI_le c2 (by omega)) ⟨vin (by omega) (by decide), ?_⟩
          refine ih _ ?_ (f.set (by omega) (by omega))
          rw [ps2, if_pos c1, show hD (ps2 P i (ps1 P (pN P) h)) i - pS P i = 0 by omega]; exact MR.sD (x := 0) q h7 hi
        · refine br_f (nI_ge (by omega) (by omega)) ⟨vin (by omega) (by decide), vin (by omega) (by decide), vin (by omega) (by decide), ?_⟩
          refine ih _ ?_ (f.set (by omega) (by omega))
          rw [pk_sub (by omega), ps2, if_pos c1]; exact q.sD h7 hi
      · refine brn_f (fun z => c1 (nI_inj (b := 1) b3 (by decide) z)) (ih _ ?_ f)
        rw [ps2, if_neg c1]; exact q
    · apply k59
      unfold B_MD_passes_59
      have hP1 := hP.fr f
      simp (disch := omega) only [a0, cl, forall_eq]
      rw [hP1.1]
      refine br_t (nI_le (Nat.le_refl _) (by omega)) (m_frees hP1 pw q v2 hr (fun N2 q2 f2 => ⟨vin (by omega) (by decide), vin (by omega) (by decide), ?_⟩))
      rw [q2.1, nI_1]
      exact k _ q2.sT ((f.tr f2).set (by omega) (by omega))
  have L1 : ∀ i, i ≤ pN P → ∀ N1, MR N1 r (pN P) (ps1 P i h) → FM r N N1 → R2 N1 (nI i) := by
    refine up_loop (fun i hi ih M1 q f => ?_) (fun M1 q f => ?_)
    · apply k2
      unfold B_MD_passes_2
      have hP1 := hP.fr f
      have v3 := gv_ps1 v pw i (by omega)
      obtain ⟨b1, b2, b3, b4⟩ := gv_b v3 pw hi
      obtain ⟨e1, e2, -, -, -, -, -⟩ := q.2.2 i hi
      simp (disch := omega) only [a0, a2, a9, nI_1, nI_add, cl, forall_eq]
      rw [hP1.1, e1, e2, q.1]
      refine br_f (nI_ge hi (by omega)) ⟨vin (by omega) (by decide), ?_⟩
      by_cases c1 : hW (ps1 P i h) i = 0
      · refine brn_t (by rw [c1]; rfl) ⟨vin (by omega) (by decide), vin (by omega) (by decide), ?_⟩
        by_cases c2 : hU (ps1 P i h) i = hT (ps1 P i h)
        · refine brn_t (by rw [c2]) ?_
          refine m_comes hP1 pw q hr (fun c e => (v3.1 c e).1) hi (fun M2 q2 f2 => ih _ ?_ (f.tr f2))
          rw [ps1, if_pos ⟨c1, c2⟩]; exact q2
        · refine brn_f (fun z => c2 (nI_inj b4 (by rw [hT_ps1]; omega) z)) (ih _ ?_ f)
          rw [ps1, if_neg (fun z => c2 z.2)]; exact q
      · refine brn_f (fun z => c1 (nI_inj (b := 0) b3 (by decide) z)) (ih _ ?_ f)
        rw [ps1, if_neg (fun z => c1 z.1)]; exact q
    · apply k2
      unfold B_MD_passes_2
      have hP1 := hP.fr f
      simp only [forall_eq]
      rw [hP1.1]
      exact br_t (nI_le (Nat.le_refl _) (by omega)) (L2 0 (Nat.zero_le _) _ q f)
  unfold B_MD_passes_i
  simp only [forall_eq]
  exact L1 0 (Nat.zero_le _) _ hh FM.rf
