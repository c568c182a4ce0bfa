/-! all rooms at once -/
def sRR (h : HT) (f : Nat → Nat) : HT := (h.1, h.2.1, h.2.2.1, h.2.2.2.1, f, h.2.2.2.2.2)
theorem gv_RR {P : PT} {h : HT} {f : Nat → Nat} (v : GV P h) (hf : ∀ g, g < pN P → f g ≤ 9) : GV P (sRR h f) := by
  have hnb : nb (sRR h f) (pN P) = nb h (pN P) := nb_same (h := h) (h' := sRR h f) (fun _ => Iff.rfl) _
  refine ⟨v.1, fun g hg => ?_⟩
  obtain ⟨v1, v2, v3, v4, v5, v6, v7, v8⟩ := v.2 g hg
  exact ⟨v1, v2, hf g hg, by rw [hnb]; exact v4, v5, v6, v7, v8⟩
/-- farther rooms make nothing sooner -/
def MO (o o' : OS) : Prop := oC o = oC o' ∧ oS o = oS o' ∧ (∀ g, oW o g ≤ oW o' g) ∧ oD o ≤ oD o'
theorem lvf_mono (P : PT) {w w' : Nat} (g : Nat) (h : w ≤ w') : lvf P w g ≤ lvf P w' g := by
  unfold lvf
  have : (w + pS P g - 1) / pS P g ≤ (w' + pS P g - 1) / pS P g := Nat.div_le_div_right (by omega)
  omega
theorem mo_mt {P : PT} {h h' : HT} {o o' : OS} {g : Nat} (eu : hU h = hU h') (et : hT h = hT h') (hb : brg P h g ≤ brg P h' g) (m : MO o o') : MO (mt P h o g) (mt P h' o' g) := by
  obtain ⟨m1, m2, m3, m4⟩ := m
  unfold mt
  rw [← m1, ← eu, ← et]
  cases e : oC o with
  | none =>
    simp only
    split
    · exact ⟨rfl, m2, m3, by show max (oD o) _ ≤ max (oD o') _; omega⟩
    · exact ⟨rfl, m2, m3, by show max (oD o) _ ≤ max (oD o') _; omega⟩
  | some c =>
    simp only
    have w : mtW P h o c g ≤ mtW P h' o' c g := by
      unfold mtW
      rw [← m2, ← eu]
      have := m3 c
      omega
    have w2 : ∀ j, va_up (oW o) c (mtW P h o c g) j ≤ va_up (oW o') c (mtW P h' o' c g) j := fun j => by
      by_cases z : j = c
      · subst z; rw [up_s, up_s]; exact w
      · rw [up_n z, up_n z]; exact m3 j
    have lv := lvf_mono P c w
    split
    · exact ⟨rfl, by show va_up (oS o) _ _ = va_up (oS o') _ _; rw [m2], w2, by show max (oD o) _ ≤ max (oD o') _; omega⟩
    · exact ⟨rfl, by show va_up (oS o) _ _ = va_up (oS o') _ _; rw [m2], w2, by show max (max (oD o) _) _ ≤ max (max (oD o') _) _; omega⟩
theorem brg_mono {P : PT} {h h' : HT} {g : Nat} (e : hR h g ≤ hR h' g) : brg P h g ≤ brg P h' g := by unfold brg; split <;> omega
theorem oA_mono {P : PT} {h : HT} {f f' : Nat → Nat} : ∀ (l : List Nat) (o o' : OS), (∀ g, g ∈ l → f g ≤ f' g) → MO o o' → MO (l.foldl (mt P (sRR h f)) o) (l.foldl (mt P (sRR h f')) o')
  | [], _, _, _, m => m
  | g :: l, o, o', hf, m => oA_mono l _ _ (fun x hx => hf x (List.mem_cons_of_mem _ hx)) (mo_mt rfl rfl (brg_mono (hf g (List.mem_cons_self ..))) m)
theorem bgD_RR (P : PT) (h : HT) (f : Nat → Nat) : ∀ i, bgD P (sRR h f) i = bgD P h i
  | 0 => rfl
  | i + 1 => by
    show (if hW h i = 1 ∧ ¬ hC h = some i then max (bgD P (sRR h f) i) _ else bgD P (sRR h f) i) = _
    rw [bgD_RR P h f i]; rfl
theorem oD_mono {P : PT} {h : HT} {f f' : Nat → Nat} {l : List Nat} (hf : ∀ g, g ∈ l → f g ≤ f' g) : oD (oA P (sRR h f) l) ≤ oD (oA P (sRR h f') l) :=
  (oA_mono l (oB P (sRR h f)) (oB P (sRR h f')) hf ⟨rfl, rfl, fun _ => Nat.le_refl _, by show bgD P (sRR h f) _ ≤ bgD P (sRR h f') _; rw [bgD_RR, bgD_RR]; exact Nat.le_refl _⟩).2.2.2
/-! rooms as they are dealt -/
def fR (h : HT) : List Nat → List Nat → (Nat → Nat) → Nat → Nat
  | g :: A, j :: B, f => fR h A B (va_up f g (hR h j))
  | _, _, f => f
theorem dlR_eq (h : HT) : ∀ (A B : List Nat) (x : HT), dlR h A B x = sRR x (fR h A B (hR x))
  | [], _, _ => rfl
  | _ :: _, [], _ => rfl
  | g :: A, j :: B, x => dlR_eq h A B (sR x g (hR h j))
theorem fR_no (h : HT) : ∀ (A B : List Nat) (f : Nat → Nat) (g : Nat), g ∉ A → fR h A B f g = f g
  | [], _, _, _, _ => rfl
  | _ :: _, [], _, _, _ => rfl
  | a :: A, b :: B, f, g, hg => by
    show fR h A B (va_up f a (hR h b)) g = f g
    rw [fR_no h A B _ g (fun z => hg (List.mem_cons_of_mem _ z)), up_n (fun z => hg (by rw [z]; exact List.mem_cons_self ..))]
theorem fR_at (h : HT) : ∀ (A B : List Nat) (f : Nat → Nat) (e a b : Nat), A.Nodup → A[e]? = some a → B[e]? = some b → fR h A B f a = hR h b
  | [], _, _, _, _, _, _, ha, _ => by cases ha
  | _ :: _, [], _, _, _, _, _, _, hb => by cases hb
  | x :: A, y :: B, f, 0, a, b, n, ha, hb => by
    cases ha; cases hb
    show fR h A B (va_up f x (hR h y)) x = _
    rw [fR_no h A B _ x (List.nodup_cons.mp n).1, up_s]
  | x :: A, y :: B, f, e + 1, a, b, n, ha, hb => fR_at h A B (va_up f x (hR h y)) e a b (List.nodup_cons.mp n).2 ha hb
/-! ways -/
theorem ext_mem {m : Nat} : ∀ (r : Nat) (pre q : List Nat), q ∈ ext m r pre → (∀ x, x ∈ pre → x < m) → (∃ t, q = pre ++ t ∧ t.length = r) ∧ ∀ x, x ∈ q → x < m
  | 0, pre, q, hq, hp => by
    have : q = pre := List.mem_singleton.mp hq
    subst this
    exact ⟨⟨[], (List.append_nil _).symm, rfl⟩, hp⟩
  | r + 1, pre, q, hq, hp => by
    unfold ext at hq
    rw [List.mem_flatMap] at hq
    obtain ⟨k, hk, hq⟩ := hq
    split at hq
    · exact absurd hq List.not_mem_nil
    · obtain ⟨⟨t, e1, e2⟩, e3⟩ := ext_mem r (pre ++ [k]) q hq (fun x hx => by
        rcases List.mem_append.mp hx with z | z
        · exact hp x z
        · rw [List.mem_singleton.mp z]; exact List.mem_range.mp hk)
      exact ⟨⟨k :: t, by rw [e1, List.append_assoc]; rfl, by rw [List.length_cons, e2]⟩, e3⟩
/-- the ways that begin with pre and a number from k on -/
def exk (m r : Nat) (pre : List Nat) : Nat → Nat → List (List Nat)
  | 0, _ => []
  | j + 1, k => (if k ∈ pre then [] else ext m r (pre ++ [k])) ++ exk m r pre j (k + 1)
theorem exk_eq (m r : Nat) (pre : List Nat) : ∀ j k, exk m r pre j k = (List.range' k j).flatMap (fun k => if k ∈ pre then [] else ext m r (pre ++ [k]))
  | 0, _ => rfl
  | j + 1, k => by
    rw [List.range'_succ, List.flatMap_cons, ← exk_eq m r pre j (k + 1)]; rfl
theorem ext_exk (m r : Nat) (pre : List Nat) : ext m (r + 1) pre = exk m r pre m 0 := by
  rw [exk_eq, ← List.range_eq_range']; rfl
theorem dlS_app (P : PT) (h : HT) : ∀ (A B : List (List Nat)) (s : Nat × Option (List Nat)), dlS P h (A ++ B) s = dlS P h B (dlS P h A s)
  | [], _, _ => rfl
  | q :: A, B, s => dlS_app P h A B _
theorem dlS_no (P : PT) (h : HT) : ∀ (A : List (List Nat)) (s : Nat × Option (List Nat)), (∀ q, q ∈ A → ¬ dn P (dlH P h q) < s.1) → dlS P h A s = s
  | [], _, _ => rfl
  | q :: A, s, e => by
    show dlS P h A (if dn P (dlH P h q) < s.1 then _ else s) = s
    rw [if_neg (e q (List.mem_cons_self ..))]
    exact dlS_no P h A s (fun x hx => e x (List.mem_cons_of_mem _ hx))
theorem dlS_le (P : PT) (h : HT) : ∀ (A : List (List Nat)) (s : Nat × Option (List Nat)), (dlS P h A s).1 ≤ s.1
  | [], _ => Nat.le_refl _
  | q :: A, s => by
    show (dlS P h A (if dn P (dlH P h q) < s.1 then (dn P (dlH P h q), some q) else s)).1 ≤ s.1
    have := dlS_le P h A (if dn P (dlH P h q) < s.1 then (dn P (dlH P h q), some q) else s)
    split at this
    · rename_i c; rw [if_pos c]; exact Nat.le_trans this (Nat.le_of_lt c)
    · rename_i c; rw [if_neg c]; exact this
/-- rooms of a way's beginning: the others are reckoned with r -/
def rmv (P : PT) (h : HT) (nr : Nat) : Option Nat → Nat
  | some x => hR h ((bkd P h).getD x 0)
  | none => nr
def FP (P : PT) (h : HT) (nr : Nat) (pre : List Nat) (f : Nat → Nat) : Prop := (∀ e g : Nat, (bkd P h)[e]? = some g → f g = rmv P h nr pre[e]?) ∧ ∀ g, g < pN P → ¬ hW h g = 0 → f g = hR h g
theorem bkd_mem {P : PT} {h : HT} {g : Nat} : g ∈ bkd P h ↔ g < pN P ∧ hW h g = 0 := by
  unfold bkd
  rw [List.mem_filter, List.mem_range, decide_eq_true_iff]
theorem bkd_nd (P : PT) (h : HT) : (bkd P h).Nodup := List.Pairwise.filter _ List.nodup_range
theorem dlH_eq (P : PT) (h : HT) (q : List Nat) : ∃ f, dlH P h q = sRR h f ∧ ((q.length = (bkd P h).length) → ∀ nr, FP P h nr q f) := by
  refine ⟨_, dlR_eq h _ _ h, fun hq nr => ⟨fun e g he => ?_, fun g hg hw => fR_no h _ _ _ g (fun z => hw (bkd_mem.mp z).2)⟩⟩
  have hel : e < q.length := by rw [hq]; exact (List.getElem?_eq_some_iff.mp he).1
  rw [List.getElem?_eq_getElem hel]
  refine fR_at h _ _ _ e g _ (bkd_nd P h) he ?_
  rw [List.getElem?_map, List.getElem?_eq_getElem hel]; rfl
/-- a way that begins so is not sooner than its beginning -/
theorem FP.le {P : PT} {h : HT} {nr : Nat} {pre q : List Nat} {f f' : Nat → Nat} (a : FP P h nr pre f) (b : FP P h nr q f') (hn : ∀ g, g ∈ bkd P h → nr ≤ hR h g) (hq : ∀ x, x ∈ q → x < (bkd P h).length) (t : List Nat) (e : q = pre ++ t) (hl : q.length = (bkd P h).length) : ∀ g, g < pN P → f g ≤ f' g := by
  intro g hg
  by_cases c : hW h g = 0
  · obtain ⟨i, hi⟩ := List.getElem?_of_mem (bkd_mem.mpr ⟨hg, c⟩)
    have hiq : i < q.length := by rw [hl]; exact (List.getElem?_eq_some_iff.mp hi).1
    rw [a.1 i g hi, b.1 i g hi, List.getElem?_eq_getElem hiq]
    by_cases z : i < pre.length
    · have : pre[i]? = some q[i] := by rw [← List.getElem?_eq_getElem hiq, e, List.getElem?_append_left z]
      rw [this]; exact Nat.le_refl _
    · rw [List.getElem?_eq_none (by omega)]
      have hx := hq _ (List.getElem_mem hiq)
      exact hn _ (mem_getD hx)
  · rw [a.2 g hg c, b.2 g hg c]; exact Nat.le_refl _
