theorem we_16 : Cond.classLink RL 7 RX8 ∈ BIG := big_t 16 (by decide +kernel) rfl
theorem we_813 : Cond.classLink RL 10 RX9 ∈ BIG := big_t 813 (by decide +kernel) rfl
theorem we_18 : Cond.methodLink RL 9 yX8_init ∈ BIG := big_t 18 (by decide +kernel) rfl
theorem we_815 : Cond.methodLink RL 12 yX9_init ∈ BIG := big_t 815 (by decide +kernel) rfl
theorem we_19 : Cond.instanceMethod yX8_init ∈ BIG := big_t 19 (by decide +kernel) rfl
theorem we_20 : Cond.code yX8_init cX8_init 2 none ∈ BIG := big_t 20 (by decide +kernel) rfl
theorem yn_X8_init : YN yX8_init cX8_init 2 0 := ⟨we_19, wd_1, we_20, rfl, by decide, by decide, by decide +kernel⟩
theorem we_816 : Cond.instanceMethod yX9_init ∈ BIG := big_t 816 (by decide +kernel) rfl
theorem we_817 : Cond.code yX9_init cX9_init 1 none ∈ BIG := big_t 817 (by decide +kernel) rfl
theorem yn_X9_init : YN yX9_init cX9_init 1 0 := ⟨we_816, wd_15, we_817, rfl, by decide, by decide, by decide +kernel⟩
section
variable {Pr : Heap → Prop} {A : Nat → Prop} {X : XT} {pc c0 n0 : Nat} {lv : List (Nat × Value)} {st : List Value}
theorem h_ex {α : Type} {Pa : α → Heap → Prop} (k : ∀ a, GW (Pa a) A X c0 n0 pc lv st) : GW (fun H => ∃ a, Pa a H) A X c0 n0 pc lv st := fun H locs ls hW hS hl => by
  obtain ⟨a, h⟩ := hW
  exact k a H locs ls h hS hl
theorem h_and {pr : Prop} (k : pr → GW Pr A X c0 n0 pc lv st) : GW (fun H => pr ∧ Pr H) A X c0 n0 pc lv st := fun H locs ls hW hS hl => k hW.1 H locs ls hW.2 hS hl
end
set_option maxHeartbeats 4000000 in
set_option maxRecDepth 100000 in
/-- the law from its entry to its end, the end as a hypothesis -/
theorem law_start {X : XT} {b L : Nat} {xv : Nat → Int32} {D : va_G} {cI cH : ClassId} {zt0 : Nat → Nat} {q : Nat × (Nat × Value)} (hL : L ≤ 256) (C : CX X cL_law RL 4 10 370) (hcm : (xR X).cells = 600000) (hsm : (xR X).slots = 7302250) (hE : ∀ (b0 n : Nat) (lay : Nat → Nat), EXA (b0, n, lay, cI, cH, D, zt0) (fun a => (xs X).heap.size ≤ a) (xs X)) (hK : SKE q (fun a => (xs X).heap.size ≤ a) (xs X) (xs X).heap) (hV : vk_R RX8 78 FTX q.1 (xs X)) (hX : va_X b L xv (xs X) (xs X).heap) (hbl : b < (xs X).heap.size) (kend : ∀ (Pr : Heap → Prop) (lv : List (Nat × Value)), GW Pr (fun a => (xs X).heap.size ≤ a) X 180 2338 749 lv []) : GW (fun H => H.size = (xs X).heap.size) (fun a => (xs X).heap.size ≤ a) X 0 0 0 [(0, .ref b)] [] := by
  generalize hh : (xs X).heap.size = h0 at hE hK kend ⊢
  have hbl0 : b < h0 := by rw [← hh]; exact hbl
  obtain ⟨Zx, eZx⟩ : ∃ Z : ZT, Z = (h0, 164, layX, cI, cH, D, zt0) := ⟨_, rfl⟩
  obtain ⟨Zm, eZm⟩ : ∃ Z : ZT, Z = (h0 + 164, 16, layM, cI, cH, D, zt0) := ⟨_, rfl⟩
  have bx : zb Zx = h0 := by rw [eZx]; rfl
  have nx : zn Zx = 164 := by rw [eZx]; rfl
  have bm : zb Zm = h0 + 164 := by rw [eZm]; rfl
  have nm : zn Zm = 16 := by rw [eZm]; rfl
  have IX1 : IsX Zx := ⟨by rw [eZx]; rfl, nx⟩
  have IM1 : IsM Zm := ⟨by rw [eZm]; rfl, nm⟩
  have Ex : EXA Zx (fun a => h0 ≤ a) (xs X) := by rw [eZx]; exact hE _ _ _
  have Em : EXA Zm (fun a => h0 ≤ a) (xs X) := by rw [eZm]; exact hE _ _ _
  have NB := c_NB_init (q := q) IX1 (xl X)
  have MD := c_MD_init IM1 (xl X)
  rw [bx] at NB
  rw [bm] at MD
  refine w_newG (Z := Zx) (n := 3) (kd := 8) (a := h0) (Pr1 := PG Zx h0 [.inr (8, dfX8)]) dfX8 C Ex.1.1 rfl inB8 tyX8 tyX8_ok we_16 we_17 wd_1 (fun j hj => by rcases (show j = 0 ∨ j = 1 ∨ j = 2 ∨ j = 3 ∨ j = 4 ∨ j = 5 ∨ j = 6 ∨ j = 7 ∨ j = 8 ∨ j = 9 ∨ j = 10 by omega) with rfl | rfl | rfl | rfl | rfl | rfl | rfl | rfl | rfl | rfl | rfl <;> rfl) hcm hsm (Nat.le_of_ble_eq_true rfl) (Nat.le_of_ble_eq_true rfl) (fun H h => h) (fun H H1 h z o he => PG.push (PG.nil h) z o he) dL_law_0 rfl ?_
  refine h_dup (n := 4) C dL_law_3 rfl rfl ?_
  refine w_callP (Z := Zx) (n := 7) (kd := 8) (lo := h0) (As := []) (rest := [.ref h0]) (Pe := PeN Zx q) (Po := fun H => ∃ M : Mem, RX s0 M ∧ Wd Zx M H) (Pr1 := fun H => ∃ M : Mem, RX s0 M ∧ Wd Zx M H) C NB yn_X8_init we_18 ⟨(Nat.le_of_ble_eq_true rfl), (Nat.le_of_ble_eq_true rfl)⟩ (Nat.le_of_ble_eq_true rfl) hcm hsm (Nat.le_of_ble_eq_true rfl) (Nat.le_of_ble_eq_true rfl) (fun U g mk a h => ⟨h.1.blind g mk a, h.2.1.blind g mk a, vk_R.same rfl h.2.2⟩) (fun H locs U hP hS hU hW => ⟨Ex.step (fun a h => by rw [bx] at h; exact h) hS hU hW, hK.step hS hU hW (fun a h => by rw [bx] at h; exact h), vk_R.warm hW hV⟩) (fun H h => h) (fun _ h => h) (fun H H1 _ h _ => h) dL_law_4 rfl rfl ?_
  refine h_ex (fun M => h_and (fun R => ?_))
  refine h_astore_n (n := 8) (i := 1) (lv' := [(0, .ref b)]) C dL_law_7 rfl (by decide) rfl rfl ?_
  refine h_size ?_
  have sz : ∀ H : Heap, (Wd Zx M H ∧ (xs X).heap.size ≤ H.size ∧ H.size ≤ (xs X).heap.size + (0 + 1 + 163)) → H.size = h0 + 164 := fun H h => by
    have h1 := Wd_size h.1 (by rw [nx]; decide)
    rw [bx, nx] at h1
    have h2 := h.2.2
    rw [hh] at h2
    omega
  refine w_newG (Z := Zm) (n := 11) (kd := 9) (a := h0 + 164) (Pr1 := fun H => Wd Zx M H ∧ PG Zm (h0 + 164) [.inr (9, dfX9)] H) dfX9 C Em.1.1 rfl inB9 tyX9 tyX9_ok we_813 we_814 wd_15 (fun j hj => by rcases (show j = 0 ∨ j = 1 ∨ j = 2 ∨ j = 3 ∨ j = 4 ∨ j = 5 ∨ j = 6 ∨ j = 7 ∨ j = 8 ∨ j = 9 ∨ j = 10 ∨ j = 11 ∨ j = 12 ∨ j = 13 ∨ j = 14 ∨ j = 15 ∨ j = 16 ∨ j = 17 ∨ j = 18 ∨ j = 19 ∨ j = 20 ∨ j = 21 ∨ j = 22 ∨ j = 23 by omega) with rfl | rfl | rfl | rfl | rfl | rfl | rfl | rfl | rfl | rfl | rfl | rfl | rfl | rfl | rfl | rfl | rfl | rfl | rfl | rfl | rfl | rfl | rfl | rfl <;> rfl) hcm hsm (Nat.le_of_ble_eq_true rfl) (Nat.le_of_ble_eq_true rfl) sz (fun H H1 h z o he => ⟨Wd_kept h.1 (fun a ha _ => o a ha), PG.push (PG.nil (sz H h)) z o he⟩) dL_law_8 rfl ?_
  refine h_dup (n := 12) C dL_law_11 rfl rfl ?_
  refine w_callP (Z := Zm) (n := 15) (kd := 9) (lo := h0 + 164) (As := []) (rest := [.ref (h0 + 164)]) (Pe := EXA Zm (fun a => h0 + 164 ≤ a)) (Po := fun H => ∃ N : Mem, RM s0 N ∧ Wd Zm N H) (Pr1 := fun H => ∃ N : Mem, RM s0 N ∧ LPP Zx Zm M N H) C MD yn_X9_init we_815 ⟨(Nat.le_of_ble_eq_true rfl), (Nat.le_of_ble_eq_true rfl)⟩ (Nat.le_of_ble_eq_true rfl) hcm hsm (Nat.le_of_ble_eq_true rfl) (Nat.le_of_ble_eq_true rfl) (fun U g mk a h => h.blind g mk a) (fun H locs U hP hS hU hW => Em.step (fun a h => Nat.le_trans (Nat.le_add_right _ _) h) hS hU hW) (fun H h => h.2) (fun _ h => Nat.le_trans (Nat.le_add_right _ _) h) (fun H H1 h hN hk => by
    obtain ⟨N, r, w⟩ := hN
    refine ⟨N, r, Wd_kept h.1 (fun a ha hx => hk a ?_), w⟩
    have := hx.2
    rw [bx, nx] at this
    exact this) dL_law_12 rfl rfl ?_
  refine h_ex (fun N => h_and (fun R2 => ?_))
  refine h_astore_n (n := 16) (i := 2) (lv' := [(1, .ref h0), (0, .ref b)]) C dL_law_15 rfl (by decide) rfl rfl ?_
  refine h_iconst (n := 17) (0 : Int32) C dL_law_16 (by decide) rfl ?_
  refine h_istore_n (n := 18) (i := 3) (lv' := [(2, .ref (h0 + 164)), (1, .ref h0), (0, .ref b)]) C dL_law_17 rfl (by decide) rfl rfl (fun z ez => ?_)
  subst ez
  refine h_sub (lv' := [(3, .int (nI 0)), (0, .ref b), (1, .ref (zb Zx + 0)), (2, .ref (zb Zm + 0))]) [0, 3, 2, 1] (by rw [bx, bm]; rfl) ?_
  have W0 : LXX Zx Zm (fun a => h0 ≤ a) X b L xv := ⟨IX1, IM1, C, Ex, Em, hX, hbl, Nat.not_le.mpr hbl0, fun a h => by have := h.1; rw [bx] at this; exact this, fun a h => by have := h.1; rw [bm] at this; exact Nat.le_trans (Nat.le_add_right _ _) this, fun a h1 h2 => by
    have e1 := h1.2
    have e2 := h2.1
    rw [bx, nx] at e1
    rw [bm] at e2
    omega, by rw [hcm]; exact (Nat.le_of_ble_eq_true rfl), by rw [hsm]; exact (Nat.le_of_ble_eq_true rfl), hL⟩
  exact law_loop W0 (fun M N lv => kend _ lv) 64 0 s0 M N (Nat.zero_le _) (by omega) jx0 R R2
