/-- how many of the first i are not booked -/
def nb (h : HT) : Nat → Nat
  | 0 => 0
  | i + 1 => nb h i + (if hW h i = 0 then 0 else 1)
def GV (P : PT) (h : HT) : Prop :=
  (∀ c, hC h = some c → c < pN P ∧ hW h c = 1) ∧ ∀ g, g < pN P → hW h g ≤ 3 ∧ hU h g ≤ 40 ∧ hR h g ≤ 9 ∧ hD h g ≤ 69 * nb h (pN P) ∧ (∀ c, hB h g = some c → c < pN P) ∧ hS h g < 2 ^ 7 ∧ (hW h g = 0 → hT h ≤ hU h g ∧ hD h g = 0 ∧ hB h g = none ∧ hS h g = 0) ∧ (hW h g = 1 → ¬ pK P g = 2)
theorem nb_le (h : HT) : ∀ i, nb h i ≤ i
  | 0 => Nat.le_refl _
  | i + 1 => by have := nb_le h i; unfold nb; split <;> omega
theorem nb_up {h h' : HT} {g : Nat} (h0 : hW h g = 0) (h1 : ¬ hW h' g = 0) (ho : ∀ j, j ≠ g → hW h' j = hW h j) : ∀ i, nb h' i = nb h i + (if g < i then 1 else 0)
  | 0 => by simp [nb]
  | i + 1 => by
    unfold nb
    rw [nb_up h0 h1 ho i]
    by_cases e : i = g
    · subst e
      rw [if_neg h1, if_pos h0, if_neg (Nat.lt_irrefl _), if_pos (Nat.lt_succ_self _)]
    · rw [ho i e]
      split <;> split <;> split <;> omega
theorem nb_same {h h' : HT} (ho : ∀ j, hW h' j = 0 ↔ hW h j = 0) : ∀ i, nb h' i = nb h i
  | 0 => rfl
  | i + 1 => by
    unfold nb
    rw [nb_same ho i]
    by_cases c : hW h i = 0
    · rw [if_pos c, if_pos ((ho i).mpr c)]
    · rw [if_neg c, if_neg (fun z => c ((ho i).mp z))]
theorem brg_le {P : PT} {h : HT} {g : Nat} (pw : PW P) (hg : g < pN P) (hr : hR h g ≤ 9) : brg P h g ≤ 69 := by
  obtain ⟨-, ⟨q2, q3⟩, -⟩ := pw.2 g hg
  unfold brg
  split
  · omega
  · split <;> omega
theorem gv_cm {P : PT} {h : HT} {g : Nat} (v : GV P h) (pw : PW P) (hg : g < pN P) (h0 : hW h g = 0) : GV P (cm P h g) := by
  have hnb := nb_up (h := h) (h' := cm P h g) (g := g) h0 (by rw [hW_cm, if_pos rfl]; split <;> decide) (fun j hj => by rw [hW_cm, if_neg hj]) (pN P)
  rw [if_pos hg] at hnb
  have hb := brg_le (h := h) pw hg (v.2 g hg).2.2.1
  have hcg : ¬ hC h = some g := fun e => by have := (v.1 g e).2; omega
  have h7 := pw.1
  refine ⟨fun c e => ?_, fun j hj => ?_⟩
  · rw [hC_cm] at e
    by_cases k : pK P g = 2
    · rw [if_pos k] at e
      have hc := v.1 c e
      refine ⟨hc.1, ?_⟩
      rw [hW_cm, if_neg (fun z => hcg (by rw [← z]; exact e))]
      exact hc.2
    · rw [if_neg k] at e
      cases e
      exact ⟨hg, by rw [hW_cm, if_pos rfl, if_neg k]⟩
  · obtain ⟨v1, v2, v3, v4, v5, v6, v7, v8⟩ := v.2 j hj
    rw [hW_cm, hU_cm, hR_cm, hD_cm, hB_cm, hS_cm, hT_cm, hnb]
    refine ⟨?_, v2, v3, ?_, ?_, ?_, ?_, ?_⟩
    · split
      · split <;> decide
      · exact v1
    · split <;> omega
    · intro c
      cases q : hC h with
      | none => exact v5 c
      | some q2 =>
        show (if j = g then some q2 else hB h j) = some c → c < pN P
        split
        · intro e; cases e; exact (v.1 _ q).1
        · exact v5 c
    · split
      · exact or_lt7 v6 (by omega)
      · exact v6
    · intro e
      have hj' : j ≠ g := fun z => by
        rw [if_pos z] at e
        split at e <;> cases e
      rw [if_neg hj'] at e
      obtain ⟨w1, w2, w3, w4⟩ := v7 e
      have hcj : ¬ hC h = some j := fun z => by have := (v.1 j z).2; omega
      rw [if_neg hcj, if_neg hcj]
      refine ⟨w1, w2, ?_, w4⟩
      cases q : hC h with
      | none => exact w3
      | some q2 => show (if j = g then some q2 else hB h j) = none; rw [if_neg hj']; exact w3
    · intro e
      by_cases z : j = g
      · subst z
        rw [if_pos rfl] at e
        intro k; rw [if_pos k] at e; cases e
      · rw [if_neg z] at e; exact v8 e
theorem gv_fr {P : PT} {h : HT} {g : Nat} (v : GV P h) (h1 : hW h g = 1) (hc : ¬ hC h = some g) : GV P (fr P h g) := by
  obtain ⟨e1, e2, e3, e4, e5, e6, e7, e8⟩ := hX_fr P h g
  have hw : ∀ j, hW (fr P h g) j = if j = g then 2 else hW h j := fun j => by rw [e3]; rfl
  have hnb := nb_same (h := h) (h' := fr P h g) (fun j => by
    rw [hw]
    by_cases z : j = g
    · rw [if_pos z, z, h1]; exact Iff.intro (fun q => absurd q (by decide)) (fun q => absurd q (by decide))
    · rw [if_neg z]) (pN P)
  refine ⟨fun c e => ?_, fun j hj => ?_⟩
  · rw [e2] at e
    refine ⟨(v.1 c e).1, ?_⟩
    rw [hw, if_neg (fun z => hc (by rw [← z]; exact e))]
    exact (v.1 c e).2
  · obtain ⟨v1, v2, v3, v4, v5, v6, v7, v8⟩ := v.2 j hj
    rw [hw, e4, e5, e6, e7, e8, e1, hnb]
    refine ⟨?_, v2, v3, v4, v5, v6, ?_, ?_⟩
    · split
      · decide
      · exact v1
    · intro e
      by_cases z : j = g
      · rw [if_pos z] at e; cases e
      · rw [if_neg z] at e; exact v7 e
    · intro e
      by_cases z : j = g
      · rw [if_pos z] at e; cases e
      · rw [if_neg z] at e; exact v8 e
theorem gv_sD {P : PT} {h : HT} {g x : Nat} (v : GV P h) (h1 : hW h g = 1) (hx : x ≤ hD h g) : GV P (sD h g x) := by
  have hd : ∀ j, hD (sD h g x) j = if j = g then x else hD h j := fun _ => rfl
  refine ⟨v.1, fun j hj => ?_⟩
  obtain ⟨v1, v2, v3, v4, v5, v6, v7, v8⟩ := v.2 j hj
  have hnb : nb (sD h g x) (pN P) = nb h (pN P) := nb_same (h := h) (h' := sD h g x) (fun _ => Iff.rfl) _
  refine ⟨v1, v2, v3, ?_, v5, v6, fun e => ?_, v8⟩
  · rw [hd, hnb]
    split
    · rename_i z; rw [z] at v4; omega
    · exact v4
  · obtain ⟨w1, w2, w3, w4⟩ := v7 e
    refine ⟨w1, ?_, w3, w4⟩
    rw [hd, if_neg (fun z => by have e : hW h j = 0 := e; rw [z, h1] at e; cases e)]
    exact w2
theorem gv_ps1 {P : PT} {h : HT} (v : GV P h) (pw : PW P) : ∀ i, i ≤ pN P → GV P (ps1 P i h)
  | 0, _ => v
  | i + 1, hi => by
    have ih := gv_ps1 v pw i (by omega)
    unfold ps1
    by_cases c : hW (ps1 P i h) i = 0 ∧ hU (ps1 P i h) i = hT (ps1 P i h)
    · rw [if_pos c]; exact gv_cm ih pw (by omega) c.1
    · rw [if_neg c]; exact ih
theorem gv_ps2 {P : PT} {h : HT} (v : GV P h) : ∀ i, GV P (ps2 P i h)
  | 0 => v
  | i + 1 => by
    have ih := gv_ps2 v i
    unfold ps2
    by_cases c : hW (ps2 P i h) i = 1
    · rw [if_pos c]; exact gv_sD ih c (Nat.sub_le _ _)
    · rw [if_neg c]; exact ih
theorem gv_ps3 {P : PT} {h : HT} (v : GV P h) : ∀ i, GV P (ps3 P i h)
  | 0 => v
  | i + 1 => by
    have ih := gv_ps3 v i
    unfold ps3
    by_cases c : hW (ps3 P i h) i = 1 ∧ ¬ hC (ps3 P i h) = some i ∧ hD (ps3 P i h) i = 0
    · rw [if_pos c]; exact gv_fr ih c.1 c.2.1
    · rw [if_neg c]; exact ih
theorem hT_ps1 (P : PT) (h : HT) : ∀ i, hT (ps1 P i h) = hT h
  | 0 => rfl
  | i + 1 => by
    unfold ps1
    split
    · rw [hT_cm]; exact hT_ps1 P h i
    · exact hT_ps1 P h i
theorem hT_ps2 (P : PT) (h : HT) : ∀ i, hT (ps2 P i h) = hT h
  | 0 => rfl
  | i + 1 => by
    unfold ps2
    split
    · exact hT_ps2 P h i
    · exact hT_ps2 P h i
theorem hT_ps3 (P : PT) (h : HT) : ∀ i, hT (ps3 P i h) = hT h
  | 0 => rfl
  | i + 1 => by
    unfold ps3
    split
    · rw [(hX_fr P _ i).1]; exact hT_ps3 P h i
    · exact hT_ps3 P h i
theorem hT_pss (P : PT) (h : HT) : hT (pss P h) = hT h + 1 := by
  show hT (ps3 P (pN P) (ps2 P (pN P) (ps1 P (pN P) h))) + 1 = _
  rw [hT_ps3, hT_ps2, hT_ps1]
theorem hU_ps1 (P : PT) (h : HT) : ∀ i, hU (ps1 P i h) = hU h
  | 0 => rfl
  | i + 1 => by
    unfold ps1
    split
    · rw [hU_cm]; exact hU_ps1 P h i
    · exact hU_ps1 P h i
theorem hU_ps2 (P : PT) (h : HT) : ∀ i, hU (ps2 P i h) = hU h
  | 0 => rfl
  | i + 1 => by
    unfold ps2
    split
    · exact hU_ps2 P h i
    · exact hU_ps2 P h i
theorem hU_ps3 (P : PT) (h : HT) : ∀ i, hU (ps3 P i h) = hU h
  | 0 => rfl
  | i + 1 => by
    unfold ps3
    split
    · rw [(hX_fr P _ i).2.2.2.1]; exact hU_ps3 P h i
    · exact hU_ps3 P h i
theorem hR_ps1 (P : PT) (h : HT) : ∀ i, hR (ps1 P i h) = hR h
  | 0 => rfl
  | i + 1 => by
    unfold ps1
    split
    · rw [hR_cm]; exact hR_ps1 P h i
    · exact hR_ps1 P h i
theorem hR_ps2 (P : PT) (h : HT) : ∀ i, hR (ps2 P i h) = hR h
  | 0 => rfl
  | i + 1 => by
    unfold ps2
    split
    · exact hR_ps2 P h i
    · exact hR_ps2 P h i
theorem hR_ps3 (P : PT) (h : HT) : ∀ i, hR (ps3 P i h) = hR h
  | 0 => rfl
  | i + 1 => by
    unfold ps3
    split
    · rw [(hX_fr P _ i).2.2.2.2.1]; exact hR_ps3 P h i
    · exact hR_ps3 P h i
/-- behind the comings nobody is booked for this hour -/
theorem ps1_none (P : PT) (h : HT) : ∀ i g, g < i → ¬ (hW (ps1 P i h) g = 0 ∧ hU h g = hT h)
  | i + 1, g, hg => by
    by_cases e : g = i
    · subst e
      unfold ps1
      by_cases c : hW (ps1 P g h) g = 0 ∧ hU (ps1 P g h) g = hT (ps1 P g h)
      · rw [if_pos c]
        intro z
        have z1 := z.1
        rw [hW_cm, if_pos rfl] at z1
        split at z1 <;> cases z1
      · rw [if_neg c]
        intro z
        exact c ⟨z.1, by rw [hU_ps1, hT_ps1]; exact z.2⟩
    · have ih := ps1_none P h i g (by omega)
      unfold ps1
      by_cases c : hW (ps1 P i h) i = 0 ∧ hU (ps1 P i h) i = hT (ps1 P i h)
      · rw [if_pos c, hW_cm, if_neg e]; exact ih
      · rw [if_neg c]; exact ih
theorem hW_ps2 (P : PT) (h : HT) : ∀ i, hW (ps2 P i h) = hW h
  | 0 => rfl
  | i + 1 => by
    unfold ps2
    split
    · exact hW_ps2 P h i
    · exact hW_ps2 P h i
theorem hW_ps3_0 (P : PT) (h : HT) : ∀ i g, hW (ps3 P i h) g = 0 → hW h g = 0
  | 0, _, e => e
  | i + 1, g, e => by
    unfold ps3 at e
    split at e
    · rw [(hX_fr P _ i).2.2.1] at e
      by_cases z : g = i
      · subst z; rw [up_s] at e; cases e
      · rw [up_n z] at e; exact hW_ps3_0 P h i g e
    · exact hW_ps3_0 P h i g e
theorem gv_pss {P : PT} {h : HT} (v : GV P h) (pw : PW P) : GV P (pss P h) := by
  have v1 := gv_ps1 v pw (pN P) (Nat.le_refl _)
  have v2 := gv_ps2 v1 (pN P)
  have v3 := gv_ps3 v2 (pN P)
  refine ⟨v3.1, fun g hg => ?_⟩
  obtain ⟨w1, w2, w3, w4, w5, w6, w7, w8⟩ := v3.2 g hg
  refine ⟨w1, w2, w3, ?_, w5, w6, fun e => ?_, w8⟩
  · have hnb : nb (pss P h) (pN P) = nb (ps3 P (pN P) (ps2 P (pN P) (ps1 P (pN P) h))) (pN P) := nb_same (h := ps3 P (pN P) (ps2 P (pN P) (ps1 P (pN P) h))) (h' := pss P h) (fun _ => Iff.rfl) _
    rw [hnb]; exact w4
  · have e3 : hW (ps3 P (pN P) (ps2 P (pN P) (ps1 P (pN P) h))) g = 0 := e
    obtain ⟨x1, x2⟩ := w7 e3
    refine ⟨?_, x2⟩
    have e1 := hW_ps3_0 P _ _ g e3
    rw [hW_ps2] at e1
    have n1 := ps1_none P h (pN P) g hg
    rw [hT_pss]
    show hT h + 1 ≤ hU (ps3 P (pN P) (ps2 P (pN P) (ps1 P (pN P) h))) g
    rw [hU_ps3, hU_ps2, hU_ps1] at x1 ⊢
    rw [hT_ps3, hT_ps2, hT_ps1] at x1
    have : ¬ hU h g = hT h := fun z => n1 ⟨e1, z⟩
    omega

theorem imax0 {d s : Nat} (hd : d < 2 ^ 30) (hs : s < 2 ^ 30) : imax 0 (nI d - nI s) = nI (d - s) := by
  unfold imax
  by_cases c : s ≤ d
  · rw [pk_sub c]
    by_cases e : d - s = 0
    · rw [e, if_neg (by decide)]; rfl
    · exact if_pos (nI_lt (a := 0) (b := d - s) (by omega) (by omega))
  · rw [if_neg (fun z => ?_), show d - s = 0 by omega]
    · rfl
    · have h1 := pk_sneg (a := d) (b := s) hs (by omega)
      exact absurd (Int32.lt_trans z h1) Int32.lt_irrefl
theorem gv_b {P : PT} {h : HT} (v : GV P h) (pw : PW P) {g : Nat} (hg : g < pN P) : hD h g < 2 ^ 30 ∧ hS h g < 2 ^ 31 ∧ hW h g < 2 ^ 31 ∧ hU h g < 2 ^ 31 := by
  obtain ⟨v1, v2, v3, v4, v5, v6, v7, v8⟩ := v.2 g hg
  have := nb_le h (pN P)
  have := pw.1
  exact ⟨by omega, by omega, by omega, by omega⟩
theorem s_hour {M : Mem} {a : Nat} {P : PT} {h : HT} {post : Mem → Prop} (hP : PR M 4 P) (pw : PW P) (hh : HR M a (pN P) h) (v : GV P h) (ha : 11 ≤ a) (ht : hT h < 2 ^ 30) (k : ∀ M', HR M' a (pN P) (pss P h) → Fr a M M' → post M') : P_House_oneHour M a post := by
  have h7 := pw.1
  intro R2 R54 R115 k2 k54 k115
  have v1 := gv_ps1 v pw (pN P) (Nat.le_refl _)
  have v2 := gv_ps2 v1 (pN P)
  have L3 : ∀ i, i ≤ pN P → ∀ M1, HR M1 a (pN P) (ps3 P i (ps2 P (pN P) (ps1 P (pN P) h))) → Fr a M M1 → R115 M1 (nI i) := by
    refine up_loop (fun i hi ih M1 q f => ?_) (fun M1 q f => ?_)
    · apply k115
      unfold B_House_oneHour_115
      have hP1 := hP.fr f (Or.inl (by omega))
      have v3 := gv_ps3 v2 i
      have hi31 : i < 2 ^ 31 := by omega
      obtain ⟨b1, b2, b3, b4⟩ := gv_b v3 pw hi
      obtain ⟨e1, -, -, e4, -, -, -⟩ := q.2.2 i hi
      simp only [cl hi31, forall_eq]
      rw [show M1 4 6 = nI (pN P) from hP1.1, e1, e4, q.2.1, nI_1]
      refine br7_f hi h7 ⟨vin (by omega) (by decide), ?_⟩
      by_cases c1 : hW (ps3 P i (ps2 P (pN P) (ps1 P (pN P) h))) i = 1
      · refine brn_t (by rw [c1]; rfl) ?_
        by_cases c2 : hC (ps3 P i (ps2 P (pN P) (ps1 P (pN P) h))) = some i
        · refine br_t (by rw [c2]; rfl) (ih _ ?_ f)
          rw [ps3, if_neg (fun z => z.2.1 c2)]; exact q
        · refine br_f (fun z => c2 ?_) ⟨vin (by omega) (by decide), ?_⟩
          · cases c3 : hC (ps3 P i (ps2 P (pN P) (ps1 P (pN P) h))) with
            | none => rw [c3] at z; exact absurd z (nI_ne4 hi31)
            | some c =>
              rw [c3] at z
              have hc := (v3.1 c c3).1
              rw [nI_inj hi31 (by omega) z]
          · by_cases c3 : hD (ps3 P i (ps2 P (pN P) (ps1 P (pN P) h))) i = 0
            · refine brn_t (by rw [c3]; rfl) ?_
              refine s_setFree hP1 pw q ha (v3.2 i hi).2.2.2.2.1 b2 hi (fun M2 q2 f2 => ih _ ?_ (f.tr f2))
              rw [ps3, if_pos ⟨c1, c2, c3⟩]; exact q2
            · refine brn_f (fun z => c3 (nI_inj (b := 0) (by omega) (by decide) z)) (ih _ ?_ f)
              rw [ps3, if_neg (fun z => c3 z.2.2)]; exact q
      · refine brn_f (fun z => c1 (nI_inj (b := 1) b3 (by decide) z)) (ih _ ?_ f)
        rw [ps3, if_neg (fun z => c1 z.1)]; exact q
    · apply k115
      unfold B_House_oneHour_115
      have hP1 := hP.fr f (Or.inl (by omega))
      simp only [forall_eq]
      rw [show M1 4 6 = nI (pN P) from hP1.1, q.1, nI_1]
      have e : post (mset M1 a 9 (nI (hT (ps3 P (pN P) (ps2 P (pN P) (ps1 P (pN P) h))) + 1))) := k _ q.sT (f.set (by omega) (by omega))
      exact br7_t h7 e e
  have L2 : ∀ i, i ≤ pN P → ∀ M1, HR M1 a (pN P) (ps2 P i (ps1 P (pN P) h)) → Fr a M M1 → R54 M1 (nI i) := by
    refine up_loop (fun i hi ih M1 q f => ?_) (fun M1 q f => ?_)
    · apply k54
      unfold B_House_oneHour_54
      have hP1 := hP.fr f (Or.inl (by omega))
      have v3 := gv_ps2 v1 i
      have hi31 : i < 2 ^ 31 := by omega
      obtain ⟨b1, b2, b3, b4⟩ := gv_b v3 pw hi
      obtain ⟨e1, -, -, e4, -, -, -⟩ := q.2.2 i hi
      have es := (hP1.2 i hi).2.2.2
      have hs := (pw.2 i hi).2.2.2
      simp only [cl hi31, forall_eq]
      rw [show M1 4 6 = nI (pN P) from hP1.1, e1, e4, show M1 9 i = nI (pS P i) from es, nI_1, imax0 b1 (by omega)]
      refine br7_f hi h7 ⟨vin (by omega) (by decide), ?_⟩
      by_cases c1 : hW (ps2 P i (ps1 P (pN P) h)) i = 1
      · refine brn_t (by rw [c1]; rfl) ⟨vin (by omega) (by decide), vin (by omega) (by decide), vin (by omega) (by decide), ?_⟩
        refine ih _ ?_ (f.set (by omega) (by omega))
        rw [ps2, if_pos c1]; exact q.sD
      · refine brn_f (fun z => c1 (nI_inj (b := 1) b3 (by decide) z)) (ih _ ?_ f)
        rw [ps2, if_neg c1]; exact q
    · apply k54
      unfold B_House_oneHour_54
      have hP1 := hP.fr f (Or.inl (by omega))
      simp only [forall_eq]
      rw [show M1 4 6 = nI (pN P) from hP1.1]
      exact br7_t h7 (L3 0 (Nat.zero_le _) _ q f) (L3 0 (Nat.zero_le _) _ q f)
  have L1 : ∀ i, i ≤ pN P → ∀ M1, HR M1 a (pN P) (ps1 P i h) → Fr a M M1 → R2 M1 (nI i) := by
    refine up_loop (fun i hi ih M1 q f => ?_) (fun M1 q f => ?_)
    · apply k2
      unfold B_House_oneHour_2
      have hP1 := hP.fr f (Or.inl (by omega))
      have v3 := gv_ps1 v pw i (by omega)
      have hi31 : i < 2 ^ 31 := by omega
      obtain ⟨b1, b2, b3, b4⟩ := gv_b v3 pw hi
      obtain ⟨e1, e2, -, -, -, -, -⟩ := q.2.2 i hi
      simp only [cl hi31, forall_eq]
      rw [show M1 4 6 = nI (pN P) from hP1.1, e1, e2, q.1, nI_1]
      refine br7_f hi h7 ⟨vin (by omega) (by decide), ?_⟩
      by_cases c1 : hW (ps1 P i h) i = 0
      · refine brn_t (by rw [c1]; rfl) ⟨vin (by omega) (by decide), ?_⟩
        by_cases c2 : hU (ps1 P i h) i = hT (ps1 P i h)
        · refine brn_t (by rw [c2]) ?_
          refine s_comes hP1 pw q ha (fun c e => (v3.1 c e).1) hi (fun M2 q2 f2 => ih _ ?_ (f.tr f2))
          rw [ps1, if_pos ⟨c1, c2⟩]; exact q2
        · refine brn_f (fun z => c2 (nI_inj b4 (by rw [hT_ps1]; omega) z)) (ih _ ?_ f)
          rw [ps1, if_neg (fun z => c2 z.2)]; exact q
      · refine brn_f (fun z => c1 (nI_inj (b := 0) b3 (by decide) z)) (ih _ ?_ f)
        rw [ps1, if_neg (fun z => c1 z.1)]; exact q
    · apply k2
      unfold B_House_oneHour_2
      have hP1 := hP.fr f (Or.inl (by omega))
      simp only [forall_eq]
      rw [show M1 4 6 = nI (pN P) from hP1.1]
      exact br7_t h7 (L2 0 (Nat.zero_le _) _ q f) (L2 0 (Nat.zero_le _) _ q f)
  unfold B_House_oneHour_i
  simp only [forall_eq]
  exact L1 0 (Nat.zero_le _) _ hh Fr.rf
