theorem ms_k {M : Mem} {k i q j : Nat} {v : Int32} (h : q ≠ k) : mset M k i v q j = M q j := ms_n (Or.inl h)
theorem ms_j {M : Mem} {k i q j : Nat} {v : Int32} (h : j ≠ i) : mset M k i v q j = M q j := ms_n (Or.inr h)
def cW (h : HT) (w : Nat) : Nat → Nat
  | 0 => 0
  | i + 1 => cW h w i + (if hW h i = w then 1 else 0)
def smG (h : HT) : Nat → Int32
  | 0 => 0
  | i + 1 => smG h i + hG h i
def smD (h : HT) : Nat → Nat
  | 0 => 0
  | i + 1 => smD h i + hD h i
def smS (P : PT) (h : HT) (m : Nat) : Nat → Nat
  | 0 => 0
  | i + 1 => smS P h m i + (if m / 2 ^ i % 2 = 1 then brg P h i else 0)
section
variable {M : Mem} {a n g : Nat} {P : PT} {h : HT}
theorem s_booked {p : Int32} {post : Int32 → Mem → Prop} (hP : M 4 6 = nI n) (h7 : n ≤ 7) (hh : HR M a n h) (hw : ∀ g, g < n → hW h g < 2 ^ 31) (h1 : ∀ g, g < n → p = nI g → hW h g = 0 → post 1 M) (h0 : (∀ g, g < n → p = nI g → ¬ hW h g = 0) → post 0 M) : P_House_isBooked M a p post := by
  unfold P_House_isBooked B_House_isBooked_i
  refine s_has hP h7 (fun g hg e => ?_) (fun q => br_t rfl (h0 (fun g hg e => absurd e (q g hg))))
  subst e
  have h31 : g < 2 ^ 31 := by omega
  obtain ⟨e1, -⟩ := hh.2.2 g hg
  rw [cl h31, e1]
  refine br_f (by decide) ⟨vin (by omega) (by decide), ?_⟩
  refine brn_c (fun c => h0 (fun j hj e z => c ?_)) (fun c => h1 g hg rfl (nI_inj (b := 0) (hw g hg) (by decide) c))
  rw [nI_inj h31 (by omega) e, z]; rfl
theorem s_booked_t {post : Int32 → Mem → Prop} (hP : M 4 6 = nI n) (h7 : n ≤ 7) (hh : HR M a n h) (hw : ∀ g, g < n → hW h g < 2 ^ 31) (hg : g < n) (h1 : hW h g = 0 → post 1 M) (h0 : ¬ hW h g = 0 → post 0 M) : P_House_isBooked M a (nI g) post :=
  s_booked hP h7 hh hw (fun j hj e c => h1 (by rw [nI_inj (by omega) (by omega) e]; exact c)) (fun q => h0 (q g hg rfl))
theorem s_rebook {x : Nat} {post : Mem → Prop} (hP : M 4 6 = nI n) (h7 : n ≤ 7) (hh : HR M a n h) (hw : ∀ g, g < n → hW h g < 2 ^ 31) (ht : hT h < 2 ^ 31) (hx : x < 2 ^ 31) (hg : g < n) (k : ∀ M', HR M' a n (if hW h g = 0 ∧ hT h ≤ x then sU h g x else h) → Fr a M M' → post M') : P_House_rebook M a (nI g) (nI x) post := by
  unfold P_House_rebook B_House_rebook_i
  refine s_booked_t hP h7 hh hw hg (fun c => ?_) (fun c => br_t rfl (k _ (by rw [if_neg (fun z => c z.1)]; exact hh) Fr.rf))
  refine br_f (by decide) ?_
  rw [hh.1]
  simp (disch := omega) only [cl, forall_eq]
  by_cases d : hT h ≤ x
  · refine br_f (fun z => absurd ((nI_ltI hx ht).mp z) (by omega)) ⟨vin (by omega) (by decide), k _ ?_ (Fr.rf.set (by omega) (by omega))⟩
    rw [if_pos ⟨c, d⟩]
    exact hh.sU
  · refine br_t (nI_lt (by omega) ht) (k _ ?_ Fr.rf)
    rw [if_neg (fun z => d z.2)]
    exact hh
theorem s_callOff {post : Mem → Prop} (hP : M 4 6 = nI n) (h7 : n ≤ 7) (hh : HR M a n h) (hw : ∀ g, g < n → hW h g < 2 ^ 31) (hg : g < n) (k : ∀ M', HR M' a n (if hW h g = 0 then sW h g 3 else h) → Fr a M M' → post M') : P_House_callOff M a (nI g) post := by
  unfold P_House_callOff B_House_callOff_i
  refine s_booked_t hP h7 hh hw hg (fun c => ?_) (fun c => br_t rfl (k _ (by rw [if_neg c]; exact hh) Fr.rf))
  refine br_f (by decide) ?_
  simp (disch := omega) only [cl, forall_eq]
  refine ⟨vin (by omega) (by decide), k _ ?_ (Fr.rf.set (by omega) (by omega))⟩
  rw [if_pos c]
  exact HR.sW (x := 3) hh
/-- two change rooms -/
def swp (h : HT) (g j : Nat) : HT := sR (sR h g (hR h j)) j (hR h g)
theorem s_swap {j : Nat} {post : Mem → Prop} (hP : M 4 6 = nI n) (h7 : n ≤ 7) (hh : HR M a n h) (hw : ∀ g, g < n → hW h g < 2 ^ 31) (hg : g < n) (hj : j < n) (k : ∀ M', HR M' a n (if hW h g = 0 ∧ hW h j = 0 then swp h g j else h) → Fr a M M' → post M') : P_House_swapRooms M a (nI g) (nI j) post := by
  unfold P_House_swapRooms B_House_swapRooms_i
  refine s_booked_t hP h7 hh hw hg (fun c => ?_) (fun c => br_t rfl (k _ (by rw [if_neg (fun z => c z.1)]; exact hh) Fr.rf))
  refine br_f (by decide) (s_booked_t hP h7 hh hw hj (fun d => ?_) (fun c => br_t rfl (k _ (by rw [if_neg (fun z => c z.2)]; exact hh) Fr.rf)))
  refine br_f (by decide) ?_
  simp (disch := omega) only [cl, forall_eq]
  refine ⟨vin (by omega) (by decide), vin (by omega) (by decide), vin (by omega) (by decide), vin (by omega) (by decide), k _ ?_ ((Fr.rf.set (by omega) (by omega)).set (by omega) (by omega))⟩
  rw [if_pos ⟨c, d⟩, (hh.2.2 g hg).2.2.1, (hh.2.2 j hj).2.2.1]
  exact HR.sR (HR.sR hh)
theorem s_hourOf {post : Int32 → Mem → Prop} (hP : M 4 6 = nI n) (h7 : n ≤ 7) (hh : HR M a n h) (hg : g < n) (k : post (nI (hU h g)) M) : P_House_hourOf M a (nI g) post := by
  unfold P_House_hourOf B_House_hourOf_i
  refine s_has_t hP h7 hg (br_f (by decide) ⟨vin (by omega) (by decide), ?_⟩)
  rw [cl (by omega), (hh.2.2 g hg).2.1]
  exact k
theorem s_roomOf {post : Int32 → Mem → Prop} (hP : M 4 6 = nI n) (h7 : n ≤ 7) (hh : HR M a n h) (hg : g < n) (k : post (nI (hR h g)) M) : P_House_roomOf M a (nI g) post := by
  unfold P_House_roomOf B_House_roomOf_i
  refine s_has_t hP h7 hg (br_f (by decide) ⟨vin (by omega) (by decide), ?_⟩)
  rw [cl (by omega), (hh.2.2 g hg).2.2.1]
  exact k
theorem s_giveRoom {v : Int32} {post : Mem → Prop} (hP : M 4 6 = nI n) (h7 : n ≤ 7) (hg : g < n) (k : post (mset M (a + 3) g v)) : P_House_giveRoom M a (nI g) v post := by
  unfold P_House_giveRoom B_House_giveRoom_i
  refine s_has_t hP h7 hg (br_f (by decide) ⟨vin (by omega) (by decide), ?_⟩)
  simp only [forall_eq]
  rw [cl (by omega)]
  exact k
theorem s_many {w : Nat} {post : Int32 → Mem → Prop} (hP : M 4 6 = nI n) (h7 : n ≤ 7) (hh : HR M a n h) (hw : ∀ g, g < n → hW h g < 2 ^ 31) (hw2 : w < 2 ^ 31) (k : post (nI (cW h w n)) M) : P_House_howMany M a (nI w) post := by
  intro R4 k4
  have L : ∀ i, i ≤ n → R4 M (nI (cW h w i)) (nI i) := by
    refine up_loop (fun i hi ih => ?_) ?_
    · apply k4
      unfold B_House_howMany_4
      obtain ⟨e1, -⟩ := hh.2.2 i hi
      simp (disch := omega) only [cl, nI_1, forall_eq]
      rw [hP, e1]
      refine br7_f hi h7 ⟨vin (by omega) (by decide), ?_⟩
      by_cases c : hW h i = w
      · refine brn_t (by rw [c]) ?_
        rw [cW, if_pos c] at ih; exact ih
      · refine brn_f (fun z => c (nI_inj (hw i hi) hw2 z)) ?_
        rw [cW, if_neg c] at ih; exact ih
    · apply k4
      unfold B_House_howMany_4
      rw [hP]
      exact br7_t h7 k k
  unfold B_House_howMany_i
  simp only [forall_eq]
  exact L 0 (Nat.zero_le _)
theorem s_coins {post : Int32 → Mem → Prop} (hP : M 4 6 = nI n) (h7 : n ≤ 7) (hh : HR M a n h) (k : post (smG h n) M) : P_House_allCoins M a post := by
  intro R4 k4
  have L : ∀ i, i ≤ n → R4 M (smG h i) (nI i) := by
    refine up_loop (fun i hi ih => ?_) ?_
    · apply k4
      unfold B_House_allCoins_4
      obtain ⟨-, -, -, -, -, -, e7⟩ := hh.2.2 i hi
      simp (disch := omega) only [cl, nI_1, forall_eq]
      rw [hP, e7]
      exact br7_f hi h7 ⟨vin (by omega) (by decide), ih⟩
    · apply k4
      unfold B_House_allCoins_4
      rw [hP]
      exact br7_t h7 k k
  unfold B_House_allCoins_i
  simp only [forall_eq]
  exact L 0 (Nat.zero_le _)
theorem s_work {post : Int32 → Mem → Prop} (hP : M 4 6 = nI n) (h7 : n ≤ 7) (hh : HR M a n h) (k : post (nI (smD h n)) M) : P_House_allWork M a post := by
  intro R4 k4
  have L : ∀ i, i ≤ n → R4 M (nI (smD h i)) (nI i) := by
    refine up_loop (fun i hi ih => ?_) ?_
    · apply k4
      unfold B_House_allWork_4
      obtain ⟨-, -, -, e4, -, -, -⟩ := hh.2.2 i hi
      simp (disch := omega) only [cl, nI_1, forall_eq]
      rw [hP, e4, nI_add]
      exact br7_f hi h7 ⟨vin (by omega) (by decide), ih⟩
    · apply k4
      unfold B_House_allWork_4
      rw [hP]
      exact br7_t h7 k k
  unfold B_House_allWork_i
  simp only [forall_eq]
  exact L 0 (Nat.zero_le _)
theorem s_load {post : Int32 → Mem → Prop} (hP : PR M 4 P) (pw : PW P) (hh : HR M a (pN P) h) (hg : g < pN P) (hs : hS h g < 2 ^ 31) (k : post (nI (smS P h (hS h g) (pN P))) M) : P_House_loadSoFar M a (nI g) post := by
  have h7 := pw.1
  intro R4 k4
  have L : ∀ i, i ≤ pN P → R4 M (nI (smS P h (hS h g) i)) (nI i) := by
    refine up_loop (fun i hi ih => ?_) ?_
    · apply k4
      unfold B_House_loadSoFar_4
      obtain ⟨-, -, -, -, -, e6, -⟩ := hh.2.2 g hg
      simp (disch := omega) only [cl, nI_1, forall_eq]
      rw [hP.1]
      refine br7_f hi h7 (s_has_t hP.1 h7 hg (br_f (by decide) ⟨vin (by omega) (by decide), ?_⟩))
      rw [e6]
      by_cases c : hS h g / 2 ^ i % 2 = 1
      · refine brn_t ((tb_has hs (by omega)).mpr c) (s_brings hP pw hh hi ?_)
        rw [nI_add]
        rw [smS, if_pos c] at ih; exact ih
      · refine brn_f (fun z => c ((tb_has hs (by omega)).mp z)) ?_
        rw [smS, if_neg c] at ih; exact ih
    · apply k4
      unfold B_House_loadSoFar_4
      rw [hP.1]
      exact br7_t h7 k k
  unfold B_House_loadSoFar_i
  simp only [forall_eq]
  exact L 0 (Nat.zero_le _)
theorem s_copy {p : Nat} {post : Mem → Prop} (h7 : n ≤ 7) (hp : p + 8 ≤ a ∨ a + 8 ≤ p) (hh : HR M p n h) (k : ∀ M', HR M' a n h → Fr a M M' → post M') : P_House_copyFrom M a p post := by
  intro R18 k18
  have L : ∀ i, i ≤ 7 → ∀ M1, (M1 a 8 = M p 8 ∧ M1 a 9 = M p 9 ∧ (∀ j, j < i → M1 (a + 1) j = M (p + 1) j ∧ M1 (a + 2) j = M (p + 2) j ∧ M1 (a + 3) j = M (p + 3) j ∧ M1 (a + 4) j = M (p + 4) j ∧ M1 (a + 5) j = M (p + 5) j ∧ M1 (a + 6) j = M (p + 6) j ∧ M1 (a + 7) j = M (p + 7) j) ∧ Fr a M M1) → R18 M1 (nI i) := by
    refine up_loop (fun i hi ih M1 q => ?_) (fun M1 q => ?_)
    · apply k18
      unfold B_House_copyFrom_18
      simp (disch := omega) only [cl, nI_1, forall_eq]
      refine br_f (nI_ge (b := 7) hi (by decide)) ⟨vin (by omega) (by decide), vin (by omega) (by decide), vin (by omega) (by decide), vin (by omega) (by decide), vin (by omega) (by decide), vin (by omega) (by decide), vin (by omega) (by decide), vin (by omega) (by decide), vin (by omega) (by decide), vin (by omega) (by decide), vin (by omega) (by decide), vin (by omega) (by decide), vin (by omega) (by decide), vin (by omega) (by decide), ?_⟩
      obtain ⟨q1, q2, q3, q4⟩ := q
      apply ih
      simp (disch := omega) only [ms_k]
      refine ⟨q1, q2, fun j hj => ?_, ?_⟩
      · by_cases e : j = i
        · subst e
          simp only [ms_s]
          simp (disch := omega) only [ms_k, q4 (p + 1) (by omega), q4 (p + 2) (by omega), q4 (p + 3) (by omega), q4 (p + 4) (by omega), q4 (p + 5) (by omega), q4 (p + 6) (by omega), q4 (p + 7) (by omega), ms_s, and_self]
        · simp (disch := omega) only [ms_j e]
          exact q3 j (by omega)
      · exact ((((((q4.set (by omega) (by omega)).set (by omega) (by omega)).set (by omega) (by omega)).set (by omega) (by omega)).set (by omega) (by omega)).set (by omega) (by omega)).set (by omega) (by omega)
    · apply k18
      unfold B_House_copyFrom_18
      refine br_t (nI_le (Nat.le_refl 7) (by decide)) (k _ ?_ q.2.2.2)
      refine ⟨q.2.1.trans hh.1, q.1.trans hh.2.1, fun j hj => ?_⟩
      obtain ⟨x1, x2, x3, x4, x5, x6, x7⟩ := q.2.2.1 j (by omega)
      obtain ⟨y1, y2, y3, y4, y5, y6, y7⟩ := hh.2.2 j hj
      exact ⟨x1.trans y1, x2.trans y2, x3.trans y3, x4.trans y4, x5.trans y5, x6.trans y6, x7.trans y7⟩
  unfold B_House_copyFrom_i
  simp only [forall_eq]
  refine L 0 (by decide) _ ?_
  refine ⟨?_, ?_, fun j hj => absurd hj (Nat.not_lt_zero _), (Fr.rf.set (by omega) (by omega)).set (by omega) (by omega)⟩
  · rw [ms_j (by decide), ms_s]
  · rw [ms_s, ms_k (by omega)]
end
