theorem imaxN {x y : Nat} (hx : x < 2 ^ 31) (hy : y < 2 ^ 31) : imax (nI x) (nI y) = nI (max x y) := by
  unfold imax
  by_cases c : x < y
  · rw [if_pos (nI_lt c hy), Nat.max_eq_right (by omega)]
  · rw [if_neg (nI_nlt (by omega) hx), Nat.max_eq_left (by omega)]
def fI : Option Nat → Int32
  | none => nI 1000000
  | some f => nI f
def OR (M : Mem) (a n : Nat) (o : OS) : Prop := M a 7 = oI (oC o) ∧ M a 8 = nI (oD o) ∧ ∀ g, g < n → M (a + 2) g = nI (oW o g) ∧ M (a + 3) g = nI (oS o g) ∧ M (a + 4) g = fI (oF o g) ∧ M (a + 5) g = nI (oL o g)
/-- outside the outlook at a nothing changes; the line stands -/
def Fo (a : Nat) (M M' : Mem) : Prop := (∀ q, (q < a ∨ a + 6 ≤ q) → M' q = M q) ∧ M' (a + 1) = M (a + 1) ∧ M' a 6 = M a 6
theorem Fo.rf {a : Nat} {M : Mem} : Fo a M M := ⟨fun _ _ => rfl, rfl, rfl⟩
theorem Fo.tr {a : Nat} {M M1 M2 : Mem} (x : Fo a M M1) (y : Fo a M1 M2) : Fo a M M2 := ⟨fun q hq => (y.1 q hq).trans (x.1 q hq), y.2.1.trans x.2.1, y.2.2.trans x.2.2⟩
theorem Fo.set {a k i : Nat} {v : Int32} {M M' : Mem} (x : Fo a M M') (h : (k = a ∧ i ≠ 6) ∨ (a + 2 ≤ k ∧ k < a + 6)) : Fo a M (mset M' k i v) := by
  refine ⟨fun q hq => ?_, ?_, ?_⟩
  · rw [mset_ne (by omega)]; exact x.1 q hq
  · rw [mset_ne (by omega)]; exact x.2.1
  · rw [ms_n (by omega)]; exact x.2.2
theorem PR.fo {a p : Nat} {M M' : Mem} {P : PT} (h : PR M p P) (f : Fo a M M') (h1 : p + 6 < a) : PR M' p P := h.of (fun q _ _ => f.1 q (by omega))
theorem HR.fo {a p n : Nat} {M M' : Mem} {h : HT} (k : HR M p n h) (f : Fo a M M') (h1 : p + 8 ≤ a ∨ a + 6 ≤ p) : HR M' p n h := k.of (fun q _ _ => f.1 q (by omega))
theorem lvf_up {P : PT} {w g : Nat} (hs : 1 ≤ pS P g) : lvf P w g ≤ w + 1 := (lvf_le hs (by omega)).mpr (by
  have : 1 * (w + 1) ≤ pS P g * (w + 1) := Nat.mul_le_mul_right _ hs
  omega)
section
variable {M : Mem} {a p g : Nat} {P : PT} {h : HT} {o : OS}
theorem s_leaves {ah w d : Nat} {post : Mem → Prop} (hP : PR M 4 P) (pw : PW P) (hg : g < pN P) (ha : 11 ≤ a) (hw : M (a + 2) g = nI w) (hd : M a 8 = nI d) (hw2 : w < 2 ^ 20) (hd2 : d < 2 ^ 20) (hah : ah < 2 ^ 20) (k : post (mset (mset M (a + 4) g (nI (ah + lvf P w g))) a 8 (nI (max d (ah + lvf P w g))))) : P_Outlook_leaves M a (nI g) (nI ah) post := by
  have h7 := pw.1
  obtain ⟨-, -, -, s1, s9⟩ := pw.2 g hg
  have e9 : M 9 g = nI (pS P g) := (hP.2 g hg).2.2.2
  have hl := lvf_up (w := w) s1
  have ev : nI ah + imax 1 (((nI w + nI (pS P g)) - 1) / nI (pS P g)) = nI (ah + lvf P w g) := by
    rw [nI_add, show (1 : Int32) = nI 1 from rfl, pk_sub (by omega), pk_div (by omega) (by omega) (by omega), imaxN (by decide) (by have := Nat.div_le_self (w + pS P g - 1) (pS P g); omega), nI_add]
    rfl
  unfold P_Outlook_leaves B_Outlook_leaves_i
  simp (disch := omega) only [cl, forall_eq]
  rw [e9]
  refine ⟨vin (by omega) (by decide), br_f (show ¬ nI (pS P g) ≤ nI 0 from nI_ge (by omega) (by omega)) ⟨vin (by omega) (by decide), fun z => absurd (nI_inj (b := 0) (by omega) (by decide) z) (by omega), vin (by omega) (by decide), vin (by omega) (by decide), ?_⟩⟩
  rw [hw, ev, ms_s, ms_k (by omega), hd, imaxN (by omega) (by omega)]
  exact k
/-- bounds while reckoning -/
def OV (P : PT) (B u : Nat) (o : OS) : Prop := (∀ c, oC o = some c → c < pN P) ∧ (∀ g, g < pN P → oW o g ≤ B ∧ oL o g ≤ B ∧ oS o g ≤ u) ∧ oD o ≤ B + 42
theorem ov_mt {B u : Nat} (pw : PW P) (V : OV P B u o) (hg : g < pN P) (hu : u ≤ hU h g) (hb : brg P h g ≤ 69) (h40 : hU h g ≤ 40) : OV P (B + 69) (hU h g) (mt P h o g) := by
  obtain ⟨V1, V2, V3⟩ := V
  have ok : ∀ {c' : Option Nat} {w s : Nat → Nat} {f : Nat → Option Nat} {l : Nat → Nat} {d : Nat}, (∀ c, c' = some c → c < pN P) → (∀ j, j < pN P → w j ≤ B + 69) → (∀ j, j < pN P → l j ≤ B + 69) → (∀ j, j < pN P → s j ≤ hU h g) → d ≤ B + 69 + 42 → OV P (B + 69) (hU h g) (mO c' w s f l d) := fun a1 a2 a3 a4 a5 => ⟨a1, fun j hj => ⟨a2 j hj, a3 j hj, a4 j hj⟩, a5⟩
  have w0 : ∀ j, j < pN P → oW o j ≤ B + 69 := fun j hj => by have := (V2 j hj).1; omega
  have l0 : ∀ j, j < pN P → oL o j ≤ B + 69 := fun j hj => by have := (V2 j hj).2.1; omega
  have s0 : ∀ j, j < pN P → oS o j ≤ hU h g := fun j hj => by have := (V2 j hj).2.2; omega
  have up : ∀ (f : Nat → Nat) (c x m : Nat), (∀ j, j < pN P → f j ≤ m) → x ≤ m → ∀ j, j < pN P → va_up f c x j ≤ m := fun f c x m e1 e2 j hj => by
    by_cases z : j = c
    · subst z; rw [up_s]; exact e2
    · rw [up_n z]; exact e1 j hj
  unfold mt
  cases e : oC o with
  | none =>
    simp only
    split
    · exact ok (fun c z => by cases z) w0 l0 s0 (by omega)
    · exact ok (fun c z => by cases z; exact hg) w0 l0 s0 (by omega)
  | some c =>
    simp only
    have hc := V1 c e
    have v := V2 c hc
    have mw : mtW P h o c g ≤ B + 69 := by unfold mtW; omega
    have ml : oL o c + brg P h g ≤ B + 69 := by omega
    have lv := lvf_up (w := mtW P h o c g) (pw.2 c hc).2.2.2.1
    split
    · exact ok (fun x z => by cases z; exact hc) (up _ _ _ _ w0 mw) (up _ _ _ _ l0 ml) (up _ _ _ _ s0 (Nat.le_refl _)) (by omega)
    · exact ok (fun x z => by cases z; exact hg) (up _ _ _ _ w0 mw) (up _ _ _ _ l0 ml) (up _ _ _ _ s0 (Nat.le_refl _)) (by omega)
theorem s_begin {post : Mem → Prop} (hP : PR M 4 P) (pw : PW P) (hh : HR M p (pN P) h) (v : GV P h) (ht : hT h < 2 ^ 20) (ha : 11 ≤ a) (hp : p + 8 ≤ a ∨ a + 6 ≤ p) (k : ∀ M', OR M' a (pN P) (oB P h) → Fo a M M' → post M') : P_Outlook_begin M a p post := by
  have h7 := pw.1
  intro R15 k15
  have bd : ∀ i, i ≤ pN P → bgD P h i ≤ 500 := fun i hi => (bgD_le P h 500 i).mpr (fun g hg _ _ => by
    have hl := lvf_up (w := hD h g) (pw.2 g (by omega)).2.2.2.1
    have := (v.2 g (by omega)).2.2.2.1
    have := nb_le h (pN P)
    omega)
  have L : ∀ i, i ≤ pN P → ∀ M1, M1 a 7 = oI (hC h) → M1 a 8 = nI (bgD P h i) → (∀ g, g < i → M1 (a + 2) g = nI (hD h g) ∧ M1 (a + 3) g = nI (hT h) ∧ M1 (a + 4) g = fI (bgF P h g) ∧ M1 (a + 5) g = nI 0) → Fo a M M1 → R15 M1 (nI i) := by
    refine up_loop (fun i hi ih M1 x7 x8 xg f => ?_) (fun M1 x7 x8 xg f => ?_)
    · have h1 := hh.fo f hp
      have P1 := hP.fo f (by omega)
      have hb := bd i (by omega)
      have hD9 : hD h i < 2 ^ 20 := by
        have := (v.2 i hi).2.2.2.1
        have := nb_le h (pN P)
        omega
      obtain ⟨v1, v2, v3, v4, v5, v6, v7, v8⟩ := v.2 i hi
      obtain ⟨y1, y2, y3, y4, -⟩ := h1.2.2 i hi
      apply k15
      unfold B_Outlook_begin_15
      rw [show M1 4 6 = nI (pN P) from P1.1]
      refine br7_f hi h7 ?_
      simp (disch := omega) only [cl, nI_1, forall_eq, ms_k, y4, h1.1, y1]
      refine ⟨vin (by omega) (by decide), vin (by omega) (by decide), vin (by omega) (by decide), vin (by omega) (by decide), vin (by omega) (by decide), vin (by omega) (by decide), ?_⟩
      generalize hM2 : mset (mset (mset (mset M1 (a + 5) i 0) (a + 2) i (nI (hD h i))) (a + 3) i (nI (hT h))) (a + 4) i 1000000 = M2
      have f2 : Fo a M1 M2 := by rw [← hM2]; exact (((Fo.rf.set (by omega)).set (by omega)).set (by omega)).set (by omega)
      have m7 : M2 a 7 = oI (hC h) := by rw [← hM2]; simp (disch := omega) only [ms_k]; exact x7
      have m8 : M2 a 8 = nI (bgD P h i) := by rw [← hM2]; simp (disch := omega) only [ms_k]; exact x8
      have mi : M2 (a + 2) i = nI (hD h i) ∧ M2 (a + 3) i = nI (hT h) ∧ M2 (a + 4) i = nI 1000000 ∧ M2 (a + 5) i = nI 0 := by
        rw [← hM2]; simp (disch := omega) only [ms_k, ms_s]; exact ⟨trivial, trivial, rfl, rfl⟩
      have mg : ∀ g, g < i → M2 (a + 2) g = nI (hD h g) ∧ M2 (a + 3) g = nI (hT h) ∧ M2 (a + 4) g = fI (bgF P h g) ∧ M2 (a + 5) g = nI 0 := fun g hg => by
        rw [← hM2]; simp (disch := omega) only [ms_j]; exact xg g hg
      have nx : ∀ x d M3, Fo a M2 M3 → M3 a 7 = oI (hC h) → M3 a 8 = nI d → (∀ q, q ≠ a → q ≠ a + 4 → M3 q = M2 q) → (∀ j, j ≠ i → M3 (a + 4) j = M2 (a + 4) j) → M3 (a + 4) i = fI x → bgF P h i = x → bgD P h (i + 1) = d → R15 M3 (nI (i + 1)) := by
        intro x d M3 f3 z7 z8 zq zj zi e1 e2
        refine ih M3 z7 (by rw [e2]; exact z8) (fun g hg => ?_) ((f.tr f2).tr f3)
        rw [zq (a + 2) (by omega) (by omega), zq (a + 3) (by omega) (by omega), zq (a + 5) (by omega) (by omega)]
        by_cases c : g = i
        · subst c
          exact ⟨mi.1, mi.2.1, by rw [zi, e1], mi.2.2.2⟩
        · rw [zj g c]; exact mg g (by omega)
      rw [x7]
      by_cases c2 : hW h i = 2
      · refine brn_t (by rw [c2]; rfl) ⟨vin (by omega) (by decide), nx (some 0) _ _ (Fo.rf.set (by omega)) ?_ ?_ (fun q h1 h2 => mset_ne h2) (fun j hj => ms_j hj) (ms_s _ _ _ _) (bgF_2 c2) rfl⟩
        · rw [ms_k (by omega)]; exact m7
        · rw [ms_k (by omega), m8]
          exact (congrArg nI (if_neg (c := hW h i = 1 ∧ ¬ hC h = some i) (fun z => by have := z.1; omega))).symm
      · refine brn_f (fun z => c2 (nI_inj (b := 2) (by omega) (by decide) z)) ⟨vin (by omega) (by decide), ?_⟩
        by_cases c1 : hW h i = 1
        · refine brn_t (by rw [c1]; rfl) ?_
          by_cases cc : hC h = some i
          · refine ⟨fun _ => ?_, fun z => absurd (by rw [cc]; rfl) z⟩
            refine nx none _ M2 Fo.rf m7 m8 (fun _ _ _ => rfl) (fun _ _ => rfl) mi.2.2.1 (bgF_n c2 (fun z => z.2 cc)) ?_
            show (if hW h i = 1 ∧ ¬ hC h = some i then _ else _) = _
            rw [if_neg (fun z => z.2 cc)]
          · have ne : ¬ nI i = oI (hC h) := by
              cases e : hC h with
              | none => exact fun z => nI_ne4 (by omega) z
              | some c => exact fun z => cc (by rw [e]; have := (v.1 c e).1; rw [nI_inj (by omega) (by omega) z])
            refine ⟨fun z => absurd z ne, fun _ => ?_⟩
            refine s_leaves (w := hD h i) (d := bgD P h i) (ah := 0) (P1.fo f2 (by omega)) pw hi ha mi.1 m8 hD9 (by omega) (by decide) ?_
            rw [Nat.zero_add]
            refine nx (some (lvf P (hD h i) i)) _ _ ((Fo.rf.set (by omega)).set (by omega)) ?_ (ms_s _ _ _ _) (fun q h1 h2 => by rw [mset_ne h1, mset_ne h2]) (fun j hj => by rw [ms_k (by omega), ms_j hj]) (by rw [ms_k (by omega), ms_s]; rfl) (bgF_1 c1 cc) ?_
            · rw [ms_j (by decide), ms_k (by omega)]; exact m7
            · show (if hW h i = 1 ∧ ¬ hC h = some i then _ else _) = _
              rw [if_pos ⟨c1, cc⟩]
        · refine brn_f (fun z => c1 (nI_inj (b := 1) (by omega) (by decide) z)) ?_
          refine nx none _ M2 Fo.rf m7 m8 (fun _ _ _ => rfl) (fun _ _ => rfl) mi.2.2.1 (bgF_n c2 (fun z => c1 z.1)) ?_
          show (if hW h i = 1 ∧ ¬ hC h = some i then _ else _) = _
          rw [if_neg (fun z => c1 z.1)]
    · apply k15
      unfold B_Outlook_begin_15
      rw [show M1 4 6 = nI (pN P) from (hP.fo f (by omega)).1]
      exact br7_t h7 (k M1 ⟨x7, x8, xg⟩ f) (k M1 ⟨x7, x8, xg⟩ f)
  unfold B_Outlook_begin_i
  simp only [forall_eq]
  refine L 0 (Nat.zero_le _) _ ?_ (ms_s _ _ _ _) (fun g hg => absurd hg (Nat.not_lt_zero _)) ((Fo.rf.set (by omega)).set (by omega))
  rw [ms_j (by decide), ms_s]; exact hh.2.1
end
