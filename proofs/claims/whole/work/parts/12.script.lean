def B_Script_append_i (p1 : Int32) (post : Int32 → Mem → Prop)  (M : Mem)  : Prop :=
  ((((M 1 2) < 0) → post (0 : Int32) M) ∧ ((¬ (M 1 2) < 0) → ((((M 1 2) < (200 : Int32)) → vp_in (M 1 2) 200 ∧ (∀ M1 : Mem, M1 = mset M 2 ((M 1 2)).toNatClampNeg p1 → ∀ M2 : Mem, M2 = mset M1 1 2 ((M1 1 2) + (1 : Int32)) → post (1 : Int32) M2)) ∧ ((¬ (M 1 2) < (200 : Int32)) → post (0 : Int32) M))))
def P_Script_append (M : Mem) (p1 : Int32) (post : Int32 → Mem → Prop) : Prop := B_Script_append_i p1 post M
set_option maxHeartbeats 4000000 in
set_option maxRecDepth 100000 in
theorem c_Script_append {Z : ZT} (hZ : IsX Z) (l : Launch) (p1 : Int32) (M : Mem) (post : Int32 → Mem → Prop) (h : P_Script_append M p1 post) : CtI Z l yX5_append cX5_append 2 (some .boolean) 0 0 [.ref (zb Z + 1), .int p1] M post := by
  refine ctI (own := RX5) rfl (by decide) (Nat.le_of_ble_eq_true rfl) (fun X C E hr hQ => ?_)
  unfold P_Script_append at h
  unfold B_Script_append_i at h
  show GS Z X 0 [(0, .ref (zb Z + 1)), (1, .int p1)] [] M
  refine g_aload_n (n := 1) (i := 0) C dX5_append_0 rfl 0 rfl rfl ?_
  refine gf_X5_18 (n := 4) C E (ox_1 hZ) dX5_append_1 rfl ?_
  refine g_if_lt (n := 7) (tgt := 19) C dX5_append_4 (by decide) rfl (fun c => ?_) (fun c => ?_)
  · replace h := h.1 c
    refine g_iconst (n := 20) (0 : Int32) C dX5_append_19 (by decide) rfl ?_
    exact g_zret C hr hQ dX5_append_20 rfl h
  · replace h := h.2 c
    refine g_aload_n (n := 8) (i := 0) C dX5_append_7 rfl 0 rfl rfl ?_
    refine gf_X5_18 (n := 11) C E (ox_1 hZ) dX5_append_8 rfl ?_
    refine g_aload_n (n := 12) (i := 0) C dX5_append_11 rfl 0 rfl rfl ?_
    refine gf_X5_9 (n := 15) 2 C E (ox_1 hZ) rfl dX5_append_12 rfl ?_
    refine g_alen (n := 16) (200 : Int32) C E (ox_2 hZ) (by decide) dX5_append_15 rfl ?_
    refine g_icmp_lt (n := 19) (tgt := 21) C dX5_append_16 (by decide) rfl (fun c => ?_) (fun c => ?_)
    · replace h := h.1 c
      refine g_aload_n (n := 22) (i := 0) C dX5_append_21 rfl 0 rfl rfl ?_
      refine gf_X5_9 (n := 25) 2 C E (ox_1 hZ) rfl dX5_append_22 rfl ?_
      refine g_aload_n (n := 26) (i := 0) C dX5_append_25 rfl 0 rfl rfl ?_
      refine gf_X5_18 (n := 29) C E (ox_1 hZ) dX5_append_26 rfl ?_
      refine g_iload_n (n := 30) (i := 1) C dX5_append_29 rfl 1 rfl rfl ?_
      refine g_iast (n := 31) C E (ox_2 hZ) h.1 dX5_append_30 rfl (fun M1 eM1 => ?_)
      replace h := h.2 M1 eM1
      refine g_aload_n (n := 32) (i := 0) C dX5_append_31 rfl 0 rfl rfl ?_
      refine g_dup (n := 33) C dX5_append_32 rfl rfl ?_
      refine gf_X5_18 (n := 36) C E (ox_1 hZ) dX5_append_33 rfl ?_
      refine g_iconst (n := 37) (1 : Int32) C dX5_append_36 (by decide) rfl ?_
      refine g_iadd (n := 38) C dX5_append_37 rfl ?_
      refine gp_X5_18 (n := 41) C E (ox_1 hZ) dX5_append_38 rfl (fun M2 eM2 => ?_)
      replace h := h M2 eM2
      refine g_iconst (n := 42) (1 : Int32) C dX5_append_41 (by decide) rfl ?_
      exact g_zret C hr hQ dX5_append_42 rfl h
    · replace h := h.2 c
      refine g_iconst (n := 20) (0 : Int32) C dX5_append_19 (by decide) rfl ?_
      exact g_zret C hr hQ dX5_append_20 rfl h
def B_Script_clear_i  (post : Mem → Prop)  (M : Mem)  : Prop :=
  ∀ M1 : Mem, M1 = mset M 1 2 (0 : Int32) → post M1
def P_Script_clear (M : Mem)  (post : Mem → Prop) : Prop := B_Script_clear_i  post M
set_option maxHeartbeats 4000000 in
set_option maxRecDepth 100000 in
theorem c_Script_clear {Z : ZT} (hZ : IsX Z) (l : Launch)  (M : Mem) (post : Mem → Prop) (h : P_Script_clear M  post) : CtV Z l yX5_clear cX5_clear 1 none 0 0 [.ref (zb Z + 1)] M post := by
  refine ctV (own := RX5) rfl (by decide) (Nat.le_of_ble_eq_true rfl) (fun X C E hr hQ => ?_)
  unfold P_Script_clear at h
  unfold B_Script_clear_i at h
  show GS Z X 0 [(0, .ref (zb Z + 1))] [] M
  refine g_aload_n (n := 1) (i := 0) C dX5_clear_0 rfl 0 rfl rfl ?_
  refine g_iconst (n := 2) (0 : Int32) C dX5_clear_1 (by decide) rfl ?_
  refine gp_X5_18 (n := 5) C E (ox_1 hZ) dX5_clear_2 rfl (fun M1 eM1 => ?_)
  replace h := h M1 eM1
  exact g_vret C hr hQ dX5_clear_5 h
def B_Script_letterAt_i (p1 : Int32) (post : Int32 → Mem → Prop)  (M : Mem)  : Prop :=
  (((p1 < 0) → post (0 : Int32) M) ∧ ((¬ p1 < 0) → ((((M 1 2) ≤ p1) → post (0 : Int32) M) ∧ ((¬ (M 1 2) ≤ p1) → ((((200 : Int32) ≤ p1) → post (0 : Int32) M) ∧ ((¬ (200 : Int32) ≤ p1) → vp_in p1 200 ∧ (post (M 2 (p1).toNatClampNeg) M)))))))
def P_Script_letterAt (M : Mem) (p1 : Int32) (post : Int32 → Mem → Prop) : Prop := B_Script_letterAt_i p1 post M
set_option maxHeartbeats 4000000 in
set_option maxRecDepth 100000 in
theorem c_Script_letterAt {Z : ZT} (hZ : IsX Z) (l : Launch) (p1 : Int32) (M : Mem) (post : Int32 → Mem → Prop) (h : P_Script_letterAt M p1 post) : CtI Z l yX5_letterAt cX5_letterAt 2 (some .int) 0 0 [.ref (zb Z + 1), .int p1] M post := by
  refine ctI (own := RX5) rfl (by decide) (Nat.le_of_ble_eq_true rfl) (fun X C E hr hQ => ?_)
  unfold P_Script_letterAt at h
  unfold B_Script_letterAt_i at h
  show GS Z X 0 [(0, .ref (zb Z + 1)), (1, .int p1)] [] M
  refine g_iload_n (n := 1) (i := 1) C dX5_letterAt_0 rfl 1 rfl rfl ?_
  refine g_if_lt (n := 4) (tgt := 30) C dX5_letterAt_1 (by decide) rfl (fun c => ?_) (fun c => ?_)
  · replace h := h.1 c
    refine g_iconst (n := 31) (0 : Int32) C dX5_letterAt_30 (by decide) rfl ?_
    exact g_iret C hr hQ dX5_letterAt_31 h
  · replace h := h.2 c
    refine g_iload_n (n := 5) (i := 1) C dX5_letterAt_4 rfl 1 rfl rfl ?_
    refine g_aload_n (n := 6) (i := 0) C dX5_letterAt_5 rfl 0 rfl rfl ?_
    refine gf_X5_18 (n := 9) C E (ox_1 hZ) dX5_letterAt_6 rfl ?_
    refine g_icmp_ge (n := 12) (tgt := 30) C dX5_letterAt_9 (by decide) rfl (fun c => ?_) (fun c => ?_)
    · replace h := h.1 c
      refine g_iconst (n := 31) (0 : Int32) C dX5_letterAt_30 (by decide) rfl ?_
      exact g_iret C hr hQ dX5_letterAt_31 h
    · replace h := h.2 c
      refine g_iload_n (n := 13) (i := 1) C dX5_letterAt_12 rfl 1 rfl rfl ?_
      refine g_aload_n (n := 14) (i := 0) C dX5_letterAt_13 rfl 0 rfl rfl ?_
      refine gf_X5_9 (n := 17) 2 C E (ox_1 hZ) rfl dX5_letterAt_14 rfl ?_
      refine g_alen (n := 18) (200 : Int32) C E (ox_2 hZ) (by decide) dX5_letterAt_17 rfl ?_
      refine g_icmp_ge (n := 21) (tgt := 30) C dX5_letterAt_18 (by decide) rfl (fun c => ?_) (fun c => ?_)
      · replace h := h.1 c
        refine g_iconst (n := 31) (0 : Int32) C dX5_letterAt_30 (by decide) rfl ?_
        exact g_iret C hr hQ dX5_letterAt_31 h
      · replace h := h.2 c
        refine g_aload_n (n := 22) (i := 0) C dX5_letterAt_21 rfl 0 rfl rfl ?_
        refine gf_X5_9 (n := 25) 2 C E (ox_1 hZ) rfl dX5_letterAt_22 rfl ?_
        refine g_iload_n (n := 26) (i := 1) C dX5_letterAt_25 rfl 1 rfl rfl ?_
        refine g_iald (n := 27) C E (ox_2 hZ) h.1 dX5_letterAt_26 rfl ?_
        replace h := h.2
        refine g_goto (tgt := 31) C dX5_letterAt_27 (by decide) ?_
        exact g_iret C hr hQ dX5_letterAt_31 h
def B_Script_isFigure_i (p1 : Int32) (post : Int32 → Mem → Prop)  (M : Mem)  : Prop :=
  P_Script_letterAt M p1 (fun (r2 : Int32) (M1 : Mem) => (((r2 < (48 : Int32)) → post (0 : Int32) M1) ∧ ((¬ r2 < (48 : Int32)) → P_Script_letterAt M1 p1 (fun (r4 : Int32) (M3 : Mem) => ((((57 : Int32) < r4) → post (0 : Int32) M3) ∧ ((¬ (57 : Int32) < r4) → post (1 : Int32) M3))))))
def P_Script_isFigure (M : Mem) (p1 : Int32) (post : Int32 → Mem → Prop) : Prop := B_Script_isFigure_i p1 post M
set_option maxHeartbeats 4000000 in
set_option maxRecDepth 100000 in
theorem c_Script_isFigure {Z : ZT} (hZ : IsX Z) (l : Launch) (p1 : Int32) (M : Mem) (post : Int32 → Mem → Prop) (h : P_Script_isFigure M p1 post) : CtI Z l yX5_isFigure cX5_isFigure 2 (some .boolean) 1 21 [.ref (zb Z + 1), .int p1] M post := by
  refine ctI (own := RX5) rfl (by decide) (Nat.le_of_ble_eq_true rfl) (fun X C E hr hQ => ?_)
  unfold P_Script_isFigure at h
  unfold B_Script_isFigure_i at h
  show GS Z X 0 [(0, .ref (zb Z + 1)), (1, .int p1)] [] M
  refine g_aload_n (n := 1) (i := 0) C dX5_isFigure_0 rfl 0 rfl rfl ?_
  refine g_iload_n (n := 2) (i := 1) C dX5_isFigure_1 rfl 1 rfl rfl ?_
  refine g_callVi (n := 5) (kd := 5) C E (c_Script_letterAt hZ _ p1 M _ h) yi_X5_letterAt wd_390 rfl (ox_1 hZ) (by decide) (Nat.le_of_ble_eq_true rfl) dX5_isFigure_2 rfl rfl (fun r2 M1 h => ?_)
  refine g_bipush (n := 7) (48 : Int32) C dX5_isFigure_5 (by decide) rfl ?_
  refine g_icmp_lt (n := 10) (tgt := 24) C dX5_isFigure_7 (by decide) rfl (fun c => ?_) (fun c => ?_)
  · replace h := h.1 c
    refine g_iconst (n := 25) (0 : Int32) C dX5_isFigure_24 (by decide) rfl ?_
    exact g_zret C hr hQ dX5_isFigure_25 rfl h
  · replace h := h.2 c
    refine g_aload_n (n := 11) (i := 0) C dX5_isFigure_10 rfl 0 rfl rfl ?_
    refine g_iload_n (n := 12) (i := 1) C dX5_isFigure_11 rfl 1 rfl rfl ?_
    refine g_callVi (n := 15) (kd := 5) C E (c_Script_letterAt hZ _ p1 M1 _ h) yi_X5_letterAt wd_390 rfl (ox_1 hZ) (by decide) (Nat.le_of_ble_eq_true rfl) dX5_isFigure_12 rfl rfl (fun r4 M3 h => ?_)
    refine g_bipush (n := 17) (57 : Int32) C dX5_isFigure_15 (by decide) rfl ?_
    refine g_icmp_gt (n := 20) (tgt := 24) C dX5_isFigure_17 (by decide) rfl (fun c => ?_) (fun c => ?_)
    · replace h := h.1 c
      refine g_iconst (n := 25) (0 : Int32) C dX5_isFigure_24 (by decide) rfl ?_
      exact g_zret C hr hQ dX5_isFigure_25 rfl h
    · replace h := h.2 c
      refine g_iconst (n := 21) (1 : Int32) C dX5_isFigure_20 (by decide) rfl ?_
      refine g_goto (tgt := 25) C dX5_isFigure_21 (by decide) ?_
      exact g_zret C hr hQ dX5_isFigure_25 rfl h
def B_Script_readNumbers_i (p1 : Int32) (p2 : Nat) (p3 : Nat) (post : Int32 → Mem → Prop) (R23 : Mem → Int32 → Int32 → Int32 → Prop) (R36 : Mem → Int32 → Int32 → Int32 → Int32 → Int32 → Prop) (R80 : Mem → Int32 → Int32 → Int32 → Int32 → Int32 → Prop) (R134 : Mem → Int32 → Int32 → Int32 → Int32 → Int32 → Int32 → Prop) (M : Mem)  : Prop :=
  ∀ z1 : Int32, z1 = (imin (5 : Int32) (imin (Int32.ofNat (tln p2)) (Int32.ofNat (tln p3)))) → ∀ z2 : Int32, z2 = p1 → ∀ z3 : Int32, z3 = (0 : Int32) → (R23 M z1 z2 z3)
def B_Script_readNumbers_23 (p1 : Int32) (p2 : Nat) (p3 : Nat) (post : Int32 → Mem → Prop) (R23 : Mem → Int32 → Int32 → Int32 → Prop) (R36 : Mem → Int32 → Int32 → Int32 → Int32 → Int32 → Prop) (R80 : Mem → Int32 → Int32 → Int32 → Int32 → Int32 → Prop) (R134 : Mem → Int32 → Int32 → Int32 → Int32 → Int32 → Int32 → Prop) (M : Mem) (x23_4 : Int32) (x23_5 : Int32) (x23_6 : Int32) : Prop :=
  (((x23_4 ≤ x23_6) → post x23_5 M) ∧ ((¬ x23_4 ≤ x23_6) → ∀ z4 : Int32, z4 = (0 : Int32) → ∀ z5 : Int32, z5 = (0 : Int32) → (R36 M x23_4 x23_5 x23_6 z4 z5)))
def B_Script_readNumbers_36 (p1 : Int32) (p2 : Nat) (p3 : Nat) (post : Int32 → Mem → Prop) (R23 : Mem → Int32 → Int32 → Int32 → Prop) (R36 : Mem → Int32 → Int32 → Int32 → Int32 → Int32 → Prop) (R80 : Mem → Int32 → Int32 → Int32 → Int32 → Int32 → Prop) (R134 : Mem → Int32 → Int32 → Int32 → Int32 → Int32 → Int32 → Prop) (M : Mem) (x36_4 : Int32) (x36_5 : Int32) (x36_6 : Int32) (x36_7 : Int32) (x36_8 : Int32) : Prop :=
  ((((2 : Int32) ≤ x36_7) → (R80 M x36_4 x36_5 x36_6 x36_7 x36_8)) ∧ ((¬ (2 : Int32) ≤ x36_7) → P_Script_isFigure M (x36_5 + x36_7) (fun (r7 : Int32) (M6 : Mem) => (((r7 = 0) → (R80 M6 x36_4 x36_5 x36_6 x36_7 x36_8)) ∧ ((¬ r7 = 0) → P_Script_letterAt M6 (x36_5 + x36_7) (fun (r9 : Int32) (M8 : Mem) => ∀ z10 : Int32, z10 = (((x36_8 * (10 : Int32)) + r9) - (48 : Int32)) → ∀ z11 : Int32, z11 = x36_7 + (1 : Int32) → (R36 M8 x36_4 x36_5 x36_6 z11 z10)))))))
def B_Script_readNumbers_80 (p1 : Int32) (p2 : Nat) (p3 : Nat) (post : Int32 → Mem → Prop) (R23 : Mem → Int32 → Int32 → Int32 → Prop) (R36 : Mem → Int32 → Int32 → Int32 → Int32 → Int32 → Prop) (R80 : Mem → Int32 → Int32 → Int32 → Int32 → Int32 → Prop) (R134 : Mem → Int32 → Int32 → Int32 → Int32 → Int32 → Int32 → Prop) (M : Mem) (x80_4 : Int32) (x80_5 : Int32) (x80_6 : Int32) (x80_7 : Int32) (x80_8 : Int32) : Prop :=
  (((x80_7 = 0) → post (-1 : Int32) M) ∧ ((¬ x80_7 = 0) → vp_in x80_6 (tln p2) ∧ ((((x80_8 < (tva p2 (x80_6).toNatClampNeg)) → post (-1 : Int32) M) ∧ ((¬ x80_8 < (tva p2 (x80_6).toNatClampNeg)) → vp_in x80_6 (tln p3) ∧ ((((x80_8 ≤ (tva p3 (x80_6).toNatClampNeg)) → ∀ z12 : Int32, z12 = (x80_5 + x80_7) → P_Script_letterAt M z12 (fun (r14 : Int32) (M13 : Mem) => (((x80_4 ≤ (x80_6 + (1 : Int32))) → (R134 M13 x80_4 z12 x80_6 x80_8 (59 : Int32) r14)) ∧ ((¬ x80_4 ≤ (x80_6 + (1 : Int32))) → (R134 M13 x80_4 z12 x80_6 x80_8 (44 : Int32) r14))))) ∧ ((¬ x80_8 ≤ (tva p3 (x80_6).toNatClampNeg)) → post (-1 : Int32) M))))))))
def B_Script_readNumbers_134 (p1 : Int32) (p2 : Nat) (p3 : Nat) (post : Int32 → Mem → Prop) (R23 : Mem → Int32 → Int32 → Int32 → Prop) (R36 : Mem → Int32 → Int32 → Int32 → Int32 → Int32 → Prop) (R80 : Mem → Int32 → Int32 → Int32 → Int32 → Int32 → Prop) (R134 : Mem → Int32 → Int32 → Int32 → Int32 → Int32 → Int32 → Prop) (M : Mem) (x134_4 : Int32) (x134_5 : Int32) (x134_6 : Int32) (x134_8 : Int32) (s134_0 : Int32) (s134_1 : Int32) : Prop :=
  (((s134_1 = s134_0) → ∀ z15 : Int32, z15 = x134_5 + (1 : Int32) → vp_in x134_6 5 ∧ (∀ M16 : Mem, M16 = mset M 3 (x134_6).toNatClampNeg x134_8 → ∀ z17 : Int32, z17 = x134_6 + (1 : Int32) → (R23 M16 x134_4 z15 z17))) ∧ ((¬ s134_1 = s134_0) → post (-1 : Int32) M))
def P_Script_readNumbers (M : Mem) (p1 : Int32) (p2 : Nat) (p3 : Nat) (post : Int32 → Mem → Prop) : Prop :=
  ∀ (R23 : Mem → Int32 → Int32 → Int32 → Prop) (R36 : Mem → Int32 → Int32 → Int32 → Int32 → Int32 → Prop) (R80 : Mem → Int32 → Int32 → Int32 → Int32 → Int32 → Prop) (R134 : Mem → Int32 → Int32 → Int32 → Int32 → Int32 → Int32 → Prop), (∀ (M : Mem) (x23_4 : Int32) (x23_5 : Int32) (x23_6 : Int32), B_Script_readNumbers_23 p1 p2 p3 post R23 R36 R80 R134 M x23_4 x23_5 x23_6 → R23 M x23_4 x23_5 x23_6) → (∀ (M : Mem) (x36_4 : Int32) (x36_5 : Int32) (x36_6 : Int32) (x36_7 : Int32) (x36_8 : Int32), B_Script_readNumbers_36 p1 p2 p3 post R23 R36 R80 R134 M x36_4 x36_5 x36_6 x36_7 x36_8 → R36 M x36_4 x36_5 x36_6 x36_7 x36_8) → (∀ (M : Mem) (x80_4 : Int32) (x80_5 : Int32) (x80_6 : Int32) (x80_7 : Int32) (x80_8 : Int32), B_Script_readNumbers_80 p1 p2 p3 post R23 R36 R80 R134 M x80_4 x80_5 x80_6 x80_7 x80_8 → R80 M x80_4 x80_5 x80_6 x80_7 x80_8) → (∀ (M : Mem) (x134_4 : Int32) (x134_5 : Int32) (x134_6 : Int32) (x134_8 : Int32) (s134_0 : Int32) (s134_1 : Int32), B_Script_readNumbers_134 p1 p2 p3 post R23 R36 R80 R134 M x134_4 x134_5 x134_6 x134_8 s134_0 s134_1 → R134 M x134_4 x134_5 x134_6 x134_8 s134_0 s134_1) → B_Script_readNumbers_i p1 p2 p3 post R23 R36 R80 R134 M
set_option maxHeartbeats 4000000 in
set_option maxRecDepth 100000 in
theorem c_Script_readNumbers {Z : ZT} (hZ : IsX Z) (l : Launch) (p1 : Int32) (p2 : Nat) (hp2 : p2 < 4) (p3 : Nat) (hp3 : p3 < 4) (M : Mem) (post : Int32 → Mem → Prop) (h : P_Script_readNumbers M p1 p2 p3 post) : CtI Z l yX5_readNumbers cX5_readNumbers 9 (some .int) 2 42 [.ref (zb Z + 1), .int p1, .ref (zt Z p2), .ref (zt Z p3)] M post := by
  refine ctI (own := RX5) rfl (by decide) (Nat.le_of_ble_eq_true rfl) (fun X C E hr hQ => ?_)
  have s23 : ∀ (M : Mem) (x23_4 : Int32) (x23_5 : Int32) (x23_6 : Int32), B_Script_readNumbers_23 p1 p2 p3 post (fun (M : Mem) (x23_4 : Int32) (x23_5 : Int32) (x23_6 : Int32) => GS Z X 23 [(0, .ref (zb Z + 1)), (2, .ref (zt Z p2)), (3, .ref (zt Z p3)), (4, .int x23_4), (5, .int x23_5), (6, .int x23_6)] [] M) (fun (M : Mem) (x36_4 : Int32) (x36_5 : Int32) (x36_6 : Int32) (x36_7 : Int32) (x36_8 : Int32) => GS Z X 36 [(0, .ref (zb Z + 1)), (2, .ref (zt Z p2)), (3, .ref (zt Z p3)), (4, .int x36_4), (5, .int x36_5), (6, .int x36_6), (7, .int x36_7), (8, .int x36_8)] [] M) (fun (M : Mem) (x80_4 : Int32) (x80_5 : Int32) (x80_6 : Int32) (x80_7 : Int32) (x80_8 : Int32) => GS Z X 80 [(0, .ref (zb Z + 1)), (2, .ref (zt Z p2)), (3, .ref (zt Z p3)), (4, .int x80_4), (5, .int x80_5), (6, .int x80_6), (7, .int x80_7), (8, .int x80_8)] [] M) (fun (M : Mem) (x134_4 : Int32) (x134_5 : Int32) (x134_6 : Int32) (x134_8 : Int32) (s134_0 : Int32) (s134_1 : Int32) => GS Z X 134 [(0, .ref (zb Z + 1)), (2, .ref (zt Z p2)), (3, .ref (zt Z p3)), (4, .int x134_4), (5, .int x134_5), (6, .int x134_6), (8, .int x134_8)] [.int s134_0, .int s134_1] M) M x23_4 x23_5 x23_6 → GS Z X 23 [(0, .ref (zb Z + 1)), (2, .ref (zt Z p2)), (3, .ref (zt Z p3)), (4, .int x23_4), (5, .int x23_5), (6, .int x23_6)] [] M := by
    intro M x23_4 x23_5 x23_6 h
    unfold B_Script_readNumbers_23 at h
    refine g_iload (n := 25) C dX5_readNumbers_23 5 rfl rfl ?_
    refine g_iload (n := 27) C dX5_readNumbers_25 3 rfl rfl ?_
    refine g_icmp_ge (n := 30) (tgt := 157) C dX5_readNumbers_27 (by decide) rfl (fun c => ?_) (fun c => ?_)
    · replace h := h.1 c
      refine g_iload (n := 159) C dX5_readNumbers_157 4 rfl rfl ?_
      exact g_iret C hr hQ dX5_readNumbers_159 h
    · replace h := h.2 c
      refine g_iconst (n := 31) (0 : Int32) C dX5_readNumbers_30 (by decide) rfl ?_
      refine g_istore (n := 33) (i := 7) C dX5_readNumbers_31 (Nat.le_of_ble_eq_true rfl) rfl rfl (fun z4 ez4 => ?_)
      replace h := h z4 ez4
      refine g_iconst (n := 34) (0 : Int32) C dX5_readNumbers_33 (by decide) rfl ?_
      refine g_istore (n := 36) (i := 8) C dX5_readNumbers_34 (Nat.le_of_ble_eq_true rfl) rfl rfl (fun z5 ez5 => ?_)
      replace h := h z5 ez5
      exact g_sub [2, 3, 4, 5, 6, 7, 1, 0] rfl h
  have s36 : ∀ (M : Mem) (x36_4 : Int32) (x36_5 : Int32) (x36_6 : Int32) (x36_7 : Int32) (x36_8 : Int32), B_Script_readNumbers_36 p1 p2 p3 post (fun (M : Mem) (x23_4 : Int32) (x23_5 : Int32) (x23_6 : Int32) => GS Z X 23 [(0, .ref (zb Z + 1)), (2, .ref (zt Z p2)), (3, .ref (zt Z p3)), (4, .int x23_4), (5, .int x23_5), (6, .int x23_6)] [] M) (fun (M : Mem) (x36_4 : Int32) (x36_5 : Int32) (x36_6 : Int32) (x36_7 : Int32) (x36_8 : Int32) => GS Z X 36 [(0, .ref (zb Z + 1)), (2, .ref (zt Z p2)), (3, .ref (zt Z p3)), (4, .int x36_4), (5, .int x36_5), (6, .int x36_6), (7, .int x36_7), (8, .int x36_8)] [] M) (fun (M : Mem) (x80_4 : Int32) (x80_5 : Int32) (x80_6 : Int32) (x80_7 : Int32) (x80_8 : Int32) => GS Z X 80 [(0, .ref (zb Z + 1)), (2, .ref (zt Z p2)), (3, .ref (zt Z p3)), (4, .int x80_4), (5, .int x80_5), (6, .int x80_6), (7, .int x80_7), (8, .int x80_8)] [] M) (fun (M : Mem) (x134_4 : Int32) (x134_5 : Int32) (x134_6 : Int32) (x134_8 : Int32) (s134_0 : Int32) (s134_1 : Int32) => GS Z X 134 [(0, .ref (zb Z + 1)), (2, .ref (zt Z p2)), (3, .ref (zt Z p3)), (4, .int x134_4), (5, .int x134_5), (6, .int x134_6), (8, .int x134_8)] [.int s134_0, .int s134_1] M) M x36_4 x36_5 x36_6 x36_7 x36_8 → GS Z X 36 [(0, .ref (zb Z + 1)), (2, .ref (zt Z p2)), (3, .ref (zt Z p3)), (4, .int x36_4), (5, .int x36_5), (6, .int x36_6), (7, .int x36_7), (8, .int x36_8)] [] M := by
    intro M x36_4 x36_5 x36_6 x36_7 x36_8 h
    unfold B_Script_readNumbers_36 at h
    refine g_iload (n := 38) C dX5_readNumbers_36 6 rfl rfl ?_
    refine g_iconst (n := 39) (2 : Int32) C dX5_readNumbers_38 (by decide) rfl ?_
    refine g_icmp_ge (n := 42) (tgt := 80) C dX5_readNumbers_39 (by decide) rfl (fun c => ?_) (fun c => ?_)
    · replace h := h.1 c
      exact g_sub [0, 1, 2, 3, 4, 5, 6, 7] rfl h
    · replace h := h.2 c
      refine g_aload_n (n := 43) (i := 0) C dX5_readNumbers_42 rfl 0 rfl rfl ?_
      refine g_iload (n := 45) C dX5_readNumbers_43 4 rfl rfl ?_
      refine g_iload (n := 47) C dX5_readNumbers_45 6 rfl rfl ?_
      refine g_iadd (n := 48) C dX5_readNumbers_47 rfl ?_
      refine g_callVi (n := 51) (kd := 5) C E (c_Script_isFigure hZ _ (x36_5 + x36_7) M _ h) yi_X5_isFigure wd_405 rfl (ox_1 hZ) (by decide) (Nat.le_of_ble_eq_true rfl) dX5_readNumbers_48 rfl rfl (fun r7 M6 h => ?_)
      refine g_if_eq (n := 54) (tgt := 80) C dX5_readNumbers_51 (by decide) rfl (fun c => ?_) (fun c => ?_)
      · replace h := h.1 c
        exact g_sub [0, 1, 2, 3, 4, 5, 6, 7] rfl h
      · replace h := h.2 c
        refine g_iload (n := 56) C dX5_readNumbers_54 7 rfl rfl ?_
        refine g_bipush (n := 58) (10 : Int32) C dX5_readNumbers_56 (by decide) rfl ?_
        refine g_imul (n := 59) C dX5_readNumbers_58 rfl ?_
        refine g_aload_n (n := 60) (i := 0) C dX5_readNumbers_59 rfl 0 rfl rfl ?_
        refine g_iload (n := 62) C dX5_readNumbers_60 4 rfl rfl ?_
        refine g_iload (n := 64) C dX5_readNumbers_62 6 rfl rfl ?_
        refine g_iadd (n := 65) C dX5_readNumbers_64 rfl ?_
        refine g_callVi (n := 68) (kd := 5) C E (c_Script_letterAt hZ _ (x36_5 + x36_7) M6 _ h) yi_X5_letterAt wd_390 rfl (ox_1 hZ) (by decide) (Nat.le_of_ble_eq_true rfl) dX5_readNumbers_65 rfl rfl (fun r9 M8 h => ?_)
        refine g_iadd (n := 69) C dX5_readNumbers_68 rfl ?_
        refine g_bipush (n := 71) (48 : Int32) C dX5_readNumbers_69 (by decide) rfl ?_
        refine g_isub (n := 72) C dX5_readNumbers_71 rfl ?_
        refine g_istore (n := 74) (i := 8) C dX5_readNumbers_72 (Nat.le_of_ble_eq_true rfl) rfl rfl (fun z10 ez10 => ?_)
        replace h := h z10 ez10
        refine g_iinc (n := 77) (v := (1 : Int32)) C dX5_readNumbers_74 7 rfl (by decide) (Nat.le_of_ble_eq_true rfl) rfl rfl (fun z11 ez11 => ?_)
        replace h := h z11 ez11
        refine g_goto (tgt := 36) C dX5_readNumbers_77 (by decide) ?_
        exact g_sub [2, 3, 4, 5, 6, 7, 0, 1] rfl h
  have s80 : ∀ (M : Mem) (x80_4 : Int32) (x80_5 : Int32) (x80_6 : Int32) (x80_7 : Int32) (x80_8 : Int32), B_Script_readNumbers_80 p1 p2 p3 post (fun (M : Mem) (x23_4 : Int32) (x23_5 : Int32) (x23_6 : Int32) => GS Z X 23 [(0, .ref (zb Z + 1)), (2, .ref (zt Z p2)), (3, .ref (zt Z p3)), (4, .int x23_4), (5, .int x23_5), (6, .int x23_6)] [] M) (fun (M : Mem) (x36_4 : Int32) (x36_5 : Int32) (x36_6 : Int32) (x36_7 : Int32) (x36_8 : Int32) => GS Z X 36 [(0, .ref (zb Z + 1)), (2, .ref (zt Z p2)), (3, .ref (zt Z p3)), (4, .int x36_4), (5, .int x36_5), (6, .int x36_6), (7, .int x36_7), (8, .int x36_8)] [] M) (fun (M : Mem) (x80_4 : Int32) (x80_5 : Int32) (x80_6 : Int32) (x80_7 : Int32) (x80_8 : Int32) => GS Z X 80 [(0, .ref (zb Z + 1)), (2, .ref (zt Z p2)), (3, .ref (zt Z p3)), (4, .int x80_4), (5, .int x80_5), (6, .int x80_6), (7, .int x80_7), (8, .int x80_8)] [] M) (fun (M : Mem) (x134_4 : Int32) (x134_5 : Int32) (x134_6 : Int32) (x134_8 : Int32) (s134_0 : Int32) (s134_1 : Int32) => GS Z X 134 [(0, .ref (zb Z + 1)), (2, .ref (zt Z p2)), (3, .ref (zt Z p3)), (4, .int x134_4), (5, .int x134_5), (6, .int x134_6), (8, .int x134_8)] [.int s134_0, .int s134_1] M) M x80_4 x80_5 x80_6 x80_7 x80_8 → GS Z X 80 [(0, .ref (zb Z + 1)), (2, .ref (zt Z p2)), (3, .ref (zt Z p3)), (4, .int x80_4), (5, .int x80_5), (6, .int x80_6), (7, .int x80_7), (8, .int x80_8)] [] M := by
    intro M x80_4 x80_5 x80_6 x80_7 x80_8 h
    unfold B_Script_readNumbers_80 at h
    refine g_iload (n := 82) C dX5_readNumbers_80 6 rfl rfl ?_
    refine g_if_eq (n := 85) (tgt := 103) C dX5_readNumbers_82 (by decide) rfl (fun c => ?_) (fun c => ?_)
    · replace h := h.1 c
      refine g_iconst (n := 104) (-1 : Int32) C dX5_readNumbers_103 (by decide) rfl ?_
      exact g_iret C hr hQ dX5_readNumbers_104 h
    · replace h := h.2 c
      refine g_iload (n := 87) C dX5_readNumbers_85 7 rfl rfl ?_
      refine g_aload_n (n := 88) (i := 2) C dX5_readNumbers_87 rfl 1 rfl rfl ?_
      refine g_iload (n := 90) C dX5_readNumbers_88 5 rfl rfl ?_
      refine g_tald (n := 91) p2 hp2 C E h.1 dX5_readNumbers_90 rfl ?_
      replace h := h.2
      refine g_icmp_lt (n := 94) (tgt := 103) C dX5_readNumbers_91 (by decide) rfl (fun c => ?_) (fun c => ?_)
      · replace h := h.1 c
        refine g_iconst (n := 104) (-1 : Int32) C dX5_readNumbers_103 (by decide) rfl ?_
        exact g_iret C hr hQ dX5_readNumbers_104 h
      · replace h := h.2 c
        refine g_iload (n := 96) C dX5_readNumbers_94 7 rfl rfl ?_
        refine g_aload_n (n := 97) (i := 3) C dX5_readNumbers_96 rfl 2 rfl rfl ?_
        refine g_iload (n := 99) C dX5_readNumbers_97 5 rfl rfl ?_
        refine g_tald (n := 100) p3 hp3 C E h.1 dX5_readNumbers_99 rfl ?_
        replace h := h.2
        refine g_icmp_le (n := 103) (tgt := 105) C dX5_readNumbers_100 (by decide) rfl (fun c => ?_) (fun c => ?_)
        · replace h := h.1 c
          refine g_iload (n := 107) C dX5_readNumbers_105 4 rfl rfl ?_
          refine g_iload (n := 109) C dX5_readNumbers_107 6 rfl rfl ?_
          refine g_iadd (n := 110) C dX5_readNumbers_109 rfl ?_
          refine g_istore (n := 112) (i := 5) C dX5_readNumbers_110 (Nat.le_of_ble_eq_true rfl) rfl rfl (fun z12 ez12 => ?_)
          replace h := h z12 ez12
          refine g_aload_n (n := 113) (i := 0) C dX5_readNumbers_112 rfl 1 rfl rfl ?_
          refine g_iload (n := 115) C dX5_readNumbers_113 0 rfl rfl ?_
          refine g_callVi (n := 118) (kd := 5) C E (c_Script_letterAt hZ _ z12 M _ h) yi_X5_letterAt wd_390 rfl (ox_1 hZ) (by decide) (Nat.le_of_ble_eq_true rfl) dX5_readNumbers_115 rfl rfl (fun r14 M13 h => ?_)
          refine g_iload (n := 120) C dX5_readNumbers_118 5 rfl rfl ?_
          refine g_iconst (n := 121) (1 : Int32) C dX5_readNumbers_120 (by decide) rfl ?_
          refine g_iadd (n := 122) C dX5_readNumbers_121 rfl ?_
          refine g_iload (n := 124) C dX5_readNumbers_122 4 rfl rfl ?_
          refine g_icmp_ge (n := 127) (tgt := 132) C dX5_readNumbers_124 (by decide) rfl (fun c => ?_) (fun c => ?_)
          · replace h := h.1 c
            refine g_bipush (n := 134) (59 : Int32) C dX5_readNumbers_132 (by decide) rfl ?_
            exact g_sub [1, 2, 3, 4, 0, 5, 7] rfl h
          · replace h := h.2 c
            refine g_bipush (n := 129) (44 : Int32) C dX5_readNumbers_127 (by decide) rfl ?_
            refine g_goto (tgt := 134) C dX5_readNumbers_129 (by decide) ?_
            exact g_sub [1, 2, 3, 4, 0, 5, 7] rfl h
        · replace h := h.2 c
          refine g_iconst (n := 104) (-1 : Int32) C dX5_readNumbers_103 (by decide) rfl ?_
          exact g_iret C hr hQ dX5_readNumbers_104 h
  have s134 : ∀ (M : Mem) (x134_4 : Int32) (x134_5 : Int32) (x134_6 : Int32) (x134_8 : Int32) (s134_0 : Int32) (s134_1 : Int32), B_Script_readNumbers_134 p1 p2 p3 post (fun (M : Mem) (x23_4 : Int32) (x23_5 : Int32) (x23_6 : Int32) => GS Z X 23 [(0, .ref (zb Z + 1)), (2, .ref (zt Z p2)), (3, .ref (zt Z p3)), (4, .int x23_4), (5, .int x23_5), (6, .int x23_6)] [] M) (fun (M : Mem) (x36_4 : Int32) (x36_5 : Int32) (x36_6 : Int32) (x36_7 : Int32) (x36_8 : Int32) => GS Z X 36 [(0, .ref (zb Z + 1)), (2, .ref (zt Z p2)), (3, .ref (zt Z p3)), (4, .int x36_4), (5, .int x36_5), (6, .int x36_6), (7, .int x36_7), (8, .int x36_8)] [] M) (fun (M : Mem) (x80_4 : Int32) (x80_5 : Int32) (x80_6 : Int32) (x80_7 : Int32) (x80_8 : Int32) => GS Z X 80 [(0, .ref (zb Z + 1)), (2, .ref (zt Z p2)), (3, .ref (zt Z p3)), (4, .int x80_4), (5, .int x80_5), (6, .int x80_6), (7, .int x80_7), (8, .int x80_8)] [] M) (fun (M : Mem) (x134_4 : Int32) (x134_5 : Int32) (x134_6 : Int32) (x134_8 : Int32) (s134_0 : Int32) (s134_1 : Int32) => GS Z X 134 [(0, .ref (zb Z + 1)), (2, .ref (zt Z p2)), (3, .ref (zt Z p3)), (4, .int x134_4), (5, .int x134_5), (6, .int x134_6), (8, .int x134_8)] [.int s134_0, .int s134_1] M) M x134_4 x134_5 x134_6 x134_8 s134_0 s134_1 → GS Z X 134 [(0, .ref (zb Z + 1)), (2, .ref (zt Z p2)), (3, .ref (zt Z p3)), (4, .int x134_4), (5, .int x134_5), (6, .int x134_6), (8, .int x134_8)] [.int s134_0, .int s134_1] M := by
    intro M x134_4 x134_5 x134_6 x134_8 s134_0 s134_1 h
    unfold B_Script_readNumbers_134 at h
    refine g_icmp_eq (n := 137) (tgt := 139) C dX5_readNumbers_134 (by decide) rfl (fun c => ?_) (fun c => ?_)
    · replace h := h.1 c
      refine g_iinc (n := 142) (v := (1 : Int32)) C dX5_readNumbers_139 4 rfl (by decide) (Nat.le_of_ble_eq_true rfl) rfl rfl (fun z15 ez15 => ?_)
      replace h := h z15 ez15
      refine g_aload_n (n := 143) (i := 0) C dX5_readNumbers_142 rfl 1 rfl rfl ?_
      refine gf_X5_15 (n := 146) 3 C E (ox_1 hZ) rfl dX5_readNumbers_143 rfl ?_
      refine g_iload (n := 148) C dX5_readNumbers_146 5 rfl rfl ?_
      refine g_iload (n := 150) C dX5_readNumbers_148 6 rfl rfl ?_
      refine g_iast (n := 151) C E (ox_3 hZ) h.1 dX5_readNumbers_150 rfl (fun M16 eM16 => ?_)
      replace h := h.2 M16 eM16
      refine g_iinc (n := 154) (v := (1 : Int32)) C dX5_readNumbers_151 5 rfl (by decide) (Nat.le_of_ble_eq_true rfl) rfl rfl (fun z17 ez17 => ?_)
      replace h := h z17 ez17
      refine g_goto (tgt := 23) C dX5_readNumbers_154 (by decide) ?_
      exact g_sub [2, 3, 4, 5, 1, 0] rfl h
    · replace h := h.2 c
      refine g_iconst (n := 138) (-1 : Int32) C dX5_readNumbers_137 (by decide) rfl ?_
      exact g_iret C hr hQ dX5_readNumbers_138 h
  replace h := h (fun (M : Mem) (x23_4 : Int32) (x23_5 : Int32) (x23_6 : Int32) => GS Z X 23 [(0, .ref (zb Z + 1)), (2, .ref (zt Z p2)), (3, .ref (zt Z p3)), (4, .int x23_4), (5, .int x23_5), (6, .int x23_6)] [] M) (fun (M : Mem) (x36_4 : Int32) (x36_5 : Int32) (x36_6 : Int32) (x36_7 : Int32) (x36_8 : Int32) => GS Z X 36 [(0, .ref (zb Z + 1)), (2, .ref (zt Z p2)), (3, .ref (zt Z p3)), (4, .int x36_4), (5, .int x36_5), (6, .int x36_6), (7, .int x36_7), (8, .int x36_8)] [] M) (fun (M : Mem) (x80_4 : Int32) (x80_5 : Int32) (x80_6 : Int32) (x80_7 : Int32) (x80_8 : Int32) => GS Z X 80 [(0, .ref (zb Z + 1)), (2, .ref (zt Z p2)), (3, .ref (zt Z p3)), (4, .int x80_4), (5, .int x80_5), (6, .int x80_6), (7, .int x80_7), (8, .int x80_8)] [] M) (fun (M : Mem) (x134_4 : Int32) (x134_5 : Int32) (x134_6 : Int32) (x134_8 : Int32) (s134_0 : Int32) (s134_1 : Int32) => GS Z X 134 [(0, .ref (zb Z + 1)), (2, .ref (zt Z p2)), (3, .ref (zt Z p3)), (4, .int x134_4), (5, .int x134_5), (6, .int x134_6), (8, .int x134_8)] [.int s134_0, .int s134_1] M) s23 s36 s80 s134
  unfold B_Script_readNumbers_i at h
  show GS Z X 0 [(0, .ref (zb Z + 1)), (1, .int p1), (2, .ref (zt Z p2)), (3, .ref (zt Z p3))] [] M
  refine g_aload_n (n := 1) (i := 0) C dX5_readNumbers_0 rfl 0 rfl rfl ?_
  refine gf_X5_15 (n := 4) 3 C E (ox_1 hZ) rfl dX5_readNumbers_1 rfl ?_
  refine g_alen (n := 5) (5 : Int32) C E (ox_3 hZ) (by decide) dX5_readNumbers_4 rfl ?_
  refine g_aload_n (n := 6) (i := 2) C dX5_readNumbers_5 rfl 2 rfl rfl ?_
  refine g_tlen (n := 7) p2 hp2 C E dX5_readNumbers_6 rfl ?_
  refine g_aload_n (n := 8) (i := 3) C dX5_readNumbers_7 rfl 3 rfl rfl ?_
  refine g_tlen (n := 9) p3 hp3 C E dX5_readNumbers_8 rfl ?_
  refine g_mmin (n := 12) C wd_402 wq_403 wq_7 wq_404 (by decide) (Nat.le_of_ble_eq_true rfl) dX5_readNumbers_9 rfl ?_
  refine g_mmin (n := 15) C wd_402 wq_403 wq_7 wq_404 (by decide) (Nat.le_of_ble_eq_true rfl) dX5_readNumbers_12 rfl ?_
  refine g_istore (n := 17) (i := 4) C dX5_readNumbers_15 (Nat.le_of_ble_eq_true rfl) rfl rfl (fun z1 ez1 => ?_)
  replace h := h z1 ez1
  refine g_iload_n (n := 18) (i := 1) C dX5_readNumbers_17 rfl 2 rfl rfl ?_
  refine g_istore (n := 20) (i := 5) C dX5_readNumbers_18 (Nat.le_of_ble_eq_true rfl) rfl rfl (fun z2 ez2 => ?_)
  replace h := h z2 ez2
  refine g_iconst (n := 21) (0 : Int32) C dX5_readNumbers_20 (by decide) rfl ?_
  refine g_istore (n := 23) (i := 6) C dX5_readNumbers_21 (Nat.le_of_ble_eq_true rfl) rfl rfl (fun z3 ez3 => ?_)
  replace h := h z3 ez3
  exact g_sub [3, 5, 6, 2, 1, 0] rfl h
def B_Script_readItem_i (p1 : Int32) (p2 : Nat) (post : Int32 → Mem → Prop)  (M : Mem)  : Prop :=
  P_Script_letterAt M p1 (fun (r2 : Int32) (M1 : Mem) => (((¬ r2 = (103 : Int32)) → P_Script_letterAt M1 p1 (fun (r4 : Int32) (M3 : Mem) => (((¬ r4 = (114 : Int32)) → post (-1 : Int32) M3) ∧ ((r4 = (114 : Int32)) → P_Script_readNumbers M3 (p1 + (1 : Int32)) 2 3 (fun (r6 : Int32) (M5 : Mem) => ∀ z7 : Int32, z7 = r6 → (((z7 = (-1 : Int32)) → post (-1 : Int32) M5) ∧ ((¬ z7 = (-1 : Int32)) → vp_in (0 : Int32) 5 ∧ (P_Plan_addRoom M5 p2 (M5 3 ((0 : Int32)).toNatClampNeg) (fun (r9 : Int32) (M8 : Mem) => (((r9 = 0) → post (-1 : Int32) M8) ∧ ((¬ r9 = 0) → post z7 M8))))))))))) ∧ ((r2 = (103 : Int32)) → P_Script_readNumbers M1 (p1 + (1 : Int32)) 0 1 (fun (r11 : Int32) (M10 : Mem) => ∀ z12 : Int32, z12 = r11 → (((z12 = (-1 : Int32)) → post (-1 : Int32) M10) ∧ ((¬ z12 = (-1 : Int32)) → P_Plan_addGuest M10 p2 3 (fun (r14 : Int32) (M13 : Mem) => (((r14 = 0) → post (-1 : Int32) M13) ∧ ((¬ r14 = 0) → post z12 M13)))))))))
def P_Script_readItem (M : Mem) (p1 : Int32) (p2 : Nat) (post : Int32 → Mem → Prop) : Prop := B_Script_readItem_i p1 p2 post M
set_option maxHeartbeats 4000000 in
set_option maxRecDepth 100000 in
theorem c_Script_readItem {Z : ZT} (hZ : IsX Z) (l : Launch) (p1 : Int32) (p2 : Nat) (hp2 : Hp p2) (M : Mem) (post : Int32 → Mem → Prop) (h : P_Script_readItem M p1 p2 post) : CtI Z l yX5_readItem cX5_readItem 4 (some .int) 3 70 [.ref (zb Z + 1), .int p1, .ref (zb Z + p2)] M post := by
  refine ctI (own := RX5) rfl (by decide) (Nat.le_of_ble_eq_true rfl) (fun X C E hr hQ => ?_)
  unfold P_Script_readItem at h
  unfold B_Script_readItem_i at h
  show GS Z X 0 [(0, .ref (zb Z + 1)), (1, .int p1), (2, .ref (zb Z + p2))] [] M
  refine g_aload_n (n := 1) (i := 0) C dX5_readItem_0 rfl 0 rfl rfl ?_
  refine g_iload_n (n := 2) (i := 1) C dX5_readItem_1 rfl 1 rfl rfl ?_
  refine g_callVi (n := 5) (kd := 5) C E (c_Script_letterAt hZ _ p1 M _ h) yi_X5_letterAt wd_390 rfl (ox_1 hZ) (by decide) (Nat.le_of_ble_eq_true rfl) dX5_readItem_2 rfl rfl (fun r2 M1 h => ?_)
  refine g_bipush (n := 7) (103 : Int32) C dX5_readItem_5 (by decide) rfl ?_
  refine g_icmp_ne (n := 10) (tgt := 46) C dX5_readItem_7 (by decide) rfl (fun c => ?_) (fun c => ?_)
  · replace h := h.1 c
    refine g_aload_n (n := 47) (i := 0) C dX5_readItem_46 rfl 0 rfl rfl ?_
    refine g_iload_n (n := 48) (i := 1) C dX5_readItem_47 rfl 1 rfl rfl ?_
    refine g_callVi (n := 51) (kd := 5) C E (c_Script_letterAt hZ _ p1 M1 _ h) yi_X5_letterAt wd_390 rfl (ox_1 hZ) (by decide) (Nat.le_of_ble_eq_true rfl) dX5_readItem_48 rfl rfl (fun r4 M3 h => ?_)
    refine g_bipush (n := 53) (114 : Int32) C dX5_readItem_51 (by decide) rfl ?_
    refine g_icmp_ne (n := 56) (tgt := 94) C dX5_readItem_53 (by decide) rfl (fun c => ?_) (fun c => ?_)
    · replace h := h.1 c
      refine g_iconst (n := 95) (-1 : Int32) C dX5_readItem_94 (by decide) rfl ?_
      exact g_iret C hr hQ dX5_readItem_95 h
    · replace h := h.2 c
      refine g_aload_n (n := 57) (i := 0) C dX5_readItem_56 rfl 0 rfl rfl ?_
      refine g_iload_n (n := 58) (i := 1) C dX5_readItem_57 rfl 1 rfl rfl ?_
      refine g_iconst (n := 59) (1 : Int32) C dX5_readItem_58 (by decide) rfl ?_
      refine g_iadd (n := 60) C dX5_readItem_59 rfl ?_
      refine g_gets (n := 63) 2 (by decide) C E ws_413 dX5_readItem_60 rfl ?_
      refine g_gets (n := 66) 3 (by decide) C E ws_415 dX5_readItem_63 rfl ?_
      refine g_callVi (n := 69) (kd := 5) C E (c_Script_readNumbers hZ _ (p1 + (1 : Int32)) 2 (by decide) 3 (by decide) M3 _ h) yi_X5_readNumbers wd_398 rfl (ox_1 hZ) (by decide) (Nat.le_of_ble_eq_true rfl) dX5_readItem_66 rfl rfl (fun r6 M5 h => ?_)
      refine g_istore_n (n := 70) (i := 3) C dX5_readItem_69 rfl (Nat.le_of_ble_eq_true rfl) rfl rfl (fun z7 ez7 => ?_)
      replace h := h z7 ez7
      refine g_iload_n (n := 71) (i := 3) C dX5_readItem_70 rfl 0 rfl rfl ?_
      refine g_iconst (n := 72) (-1 : Int32) C dX5_readItem_71 (by decide) rfl ?_
      refine g_icmp_eq (n := 75) (tgt := 92) C dX5_readItem_72 (by decide) rfl (fun c => ?_) (fun c => ?_)
      · replace h := h.1 c
        refine g_iconst (n := 93) (-1 : Int32) C dX5_readItem_92 (by decide) rfl ?_
        exact g_iret C hr hQ dX5_readItem_93 h
      · replace h := h.2 c
        refine g_aload_n (n := 76) (i := 2) C dX5_readItem_75 rfl 3 rfl rfl ?_
        refine g_aload_n (n := 77) (i := 0) C dX5_readItem_76 rfl 1 rfl rfl ?_
        refine gf_X5_15 (n := 80) 3 C E (ox_1 hZ) rfl dX5_readItem_77 rfl ?_
        refine g_iconst (n := 81) (0 : Int32) C dX5_readItem_80 (by decide) rfl ?_
        refine g_iald (n := 82) C E (ox_3 hZ) h.1 dX5_readItem_81 rfl ?_
        replace h := h.2
        refine g_callNi (n := 85) (kd := 4) C E (c_Plan_addRoom hZ _ p2 hp2 (M5 3 ((0 : Int32)).toNatClampNeg) M5 _ h) yi_X4_addRoom wn_417 rfl (Hp.o hZ hp2) (by decide) (Nat.le_of_ble_eq_true rfl) dX5_readItem_82 rfl rfl (fun r9 M8 h => ?_)
        refine g_if_eq (n := 88) (tgt := 92) C dX5_readItem_85 (by decide) rfl (fun c => ?_) (fun c => ?_)
        · replace h := h.1 c
          refine g_iconst (n := 93) (-1 : Int32) C dX5_readItem_92 (by decide) rfl ?_
          exact g_iret C hr hQ dX5_readItem_93 h
        · replace h := h.2 c
          refine g_iload_n (n := 89) (i := 3) C dX5_readItem_88 rfl 0 rfl rfl ?_
          refine g_goto (tgt := 93) C dX5_readItem_89 (by decide) ?_
          exact g_iret C hr hQ dX5_readItem_93 h
  · replace h := h.2 c
    refine g_aload_n (n := 11) (i := 0) C dX5_readItem_10 rfl 0 rfl rfl ?_
    refine g_iload_n (n := 12) (i := 1) C dX5_readItem_11 rfl 1 rfl rfl ?_
    refine g_iconst (n := 13) (1 : Int32) C dX5_readItem_12 (by decide) rfl ?_
    refine g_iadd (n := 14) C dX5_readItem_13 rfl ?_
    refine g_gets (n := 17) 0 (by decide) C E ws_394 dX5_readItem_14 rfl ?_
    refine g_gets (n := 20) 1 (by decide) C E ws_396 dX5_readItem_17 rfl ?_
    refine g_callVi (n := 23) (kd := 5) C E (c_Script_readNumbers hZ _ (p1 + (1 : Int32)) 0 (by decide) 1 (by decide) M1 _ h) yi_X5_readNumbers wd_398 rfl (ox_1 hZ) (by decide) (Nat.le_of_ble_eq_true rfl) dX5_readItem_20 rfl rfl (fun r11 M10 h => ?_)
    refine g_istore_n (n := 24) (i := 3) C dX5_readItem_23 rfl (Nat.le_of_ble_eq_true rfl) rfl rfl (fun z12 ez12 => ?_)
    replace h := h z12 ez12
    refine g_iload_n (n := 25) (i := 3) C dX5_readItem_24 rfl 0 rfl rfl ?_
    refine g_iconst (n := 26) (-1 : Int32) C dX5_readItem_25 (by decide) rfl ?_
    refine g_icmp_eq (n := 29) (tgt := 44) C dX5_readItem_26 (by decide) rfl (fun c => ?_) (fun c => ?_)
    · replace h := h.1 c
      refine g_iconst (n := 45) (-1 : Int32) C dX5_readItem_44 (by decide) rfl ?_
      exact g_iret C hr hQ dX5_readItem_45 h
    · replace h := h.2 c
      refine g_aload_n (n := 30) (i := 2) C dX5_readItem_29 rfl 3 rfl rfl ?_
      refine g_aload_n (n := 31) (i := 0) C dX5_readItem_30 rfl 1 rfl rfl ?_
      refine gf_X5_15 (n := 34) 3 C E (ox_1 hZ) rfl dX5_readItem_31 rfl ?_
      refine g_callNi (n := 37) (kd := 4) C E (c_Plan_addGuest hZ _ p2 hp2 3 (by unfold H5; decide) M10 _ h) yi_X4_addGuest wn_409 rfl (Hp.o hZ hp2) (by decide) (Nat.le_of_ble_eq_true rfl) dX5_readItem_34 rfl rfl (fun r14 M13 h => ?_)
      refine g_if_eq (n := 40) (tgt := 44) C dX5_readItem_37 (by decide) rfl (fun c => ?_) (fun c => ?_)
      · replace h := h.1 c
        refine g_iconst (n := 45) (-1 : Int32) C dX5_readItem_44 (by decide) rfl ?_
        exact g_iret C hr hQ dX5_readItem_45 h
      · replace h := h.2 c
        refine g_iload_n (n := 41) (i := 3) C dX5_readItem_40 rfl 0 rfl rfl ?_
        refine g_goto (tgt := 45) C dX5_readItem_41 (by decide) ?_
        exact g_iret C hr hQ dX5_readItem_45 h
def B_Script_readInto_i (p1 : Nat) (post : Int32 → Mem → Prop) (R8 : Mem → Int32 → Int32 → Prop) (M : Mem)  : Prop :=
  P_Plan_clear M p1 (fun (M1 : Mem) => ∀ z2 : Int32, z2 = (0 : Int32) → ∀ z3 : Int32, z3 = (0 : Int32) → (R8 M1 z2 z3))
def B_Script_readInto_8 (p1 : Nat) (post : Int32 → Mem → Prop) (R8 : Mem → Int32 → Int32 → Prop) (M : Mem) (x8_2 : Int32) (x8_3 : Int32) : Prop :=
  ((((200 : Int32) ≤ x8_3) → post (-4 : Int32) M) ∧ ((¬ (200 : Int32) ≤ x8_3) → ((((M 1 2) ≤ x8_2) → post (-4 : Int32) M) ∧ ((¬ (M 1 2) ≤ x8_2) → P_Script_readItem M x8_2 p1 (fun (r5 : Int32) (M4 : Mem) => ∀ z6 : Int32, z6 = r5 → (((¬ z6 = (-1 : Int32)) → ∀ z7 : Int32, z7 = z6 → ∀ z8 : Int32, z8 = x8_3 + (1 : Int32) → (R8 M4 z7 z8)) ∧ ((z6 = (-1 : Int32)) → post x8_2 M4)))))))
def P_Script_readInto (M : Mem) (p1 : Nat) (post : Int32 → Mem → Prop) : Prop :=
  ∀ (R8 : Mem → Int32 → Int32 → Prop), (∀ (M : Mem) (x8_2 : Int32) (x8_3 : Int32), B_Script_readInto_8 p1 post R8 M x8_2 x8_3 → R8 M x8_2 x8_3) → B_Script_readInto_i p1 post R8 M
set_option maxHeartbeats 4000000 in
set_option maxRecDepth 100000 in
theorem c_Script_readInto {Z : ZT} (hZ : IsX Z) (l : Launch) (p1 : Nat) (hp1 : Hp p1) (M : Mem) (post : Int32 → Mem → Prop) (h : P_Script_readInto M p1 post) : CtI Z l yX5_readInto cX5_readInto 5 (some .int) 4 93 [.ref (zb Z + 1), .ref (zb Z + p1)] M post := by
  refine ctI (own := RX5) rfl (by decide) (Nat.le_of_ble_eq_true rfl) (fun X C E hr hQ => ?_)
  have s8 : ∀ (M : Mem) (x8_2 : Int32) (x8_3 : Int32), B_Script_readInto_8 p1 post (fun (M : Mem) (x8_2 : Int32) (x8_3 : Int32) => GS Z X 8 [(0, .ref (zb Z + 1)), (1, .ref (zb Z + p1)), (2, .int x8_2), (3, .int x8_3)] [] M) M x8_2 x8_3 → GS Z X 8 [(0, .ref (zb Z + 1)), (1, .ref (zb Z + p1)), (2, .int x8_2), (3, .int x8_3)] [] M := by
    intro M x8_2 x8_3 h
    unfold B_Script_readInto_8 at h
    refine g_iload_n (n := 9) (i := 3) C dX5_readInto_8 rfl 3 rfl rfl ?_
    refine g_sipush (n := 12) (200 : Int32) C dX5_readInto_9 (by decide) rfl ?_
    refine g_icmp_ge (n := 15) (tgt := 48) C dX5_readInto_12 (by decide) rfl (fun c => ?_) (fun c => ?_)
    · replace h := h.1 c
      refine g_bipush (n := 50) (-4 : Int32) C dX5_readInto_48 (by decide) rfl ?_
      exact g_iret C hr hQ dX5_readInto_50 h
    · replace h := h.2 c
      refine g_iload_n (n := 16) (i := 2) C dX5_readInto_15 rfl 2 rfl rfl ?_
      refine g_aload_n (n := 17) (i := 0) C dX5_readInto_16 rfl 0 rfl rfl ?_
      refine gf_X5_18 (n := 20) C E (ox_1 hZ) dX5_readInto_17 rfl ?_
      refine g_icmp_ge (n := 23) (tgt := 48) C dX5_readInto_20 (by decide) rfl (fun c => ?_) (fun c => ?_)
      · replace h := h.1 c
        refine g_bipush (n := 50) (-4 : Int32) C dX5_readInto_48 (by decide) rfl ?_
        exact g_iret C hr hQ dX5_readInto_50 h
      · replace h := h.2 c
        refine g_aload_n (n := 24) (i := 0) C dX5_readInto_23 rfl 0 rfl rfl ?_
        refine g_iload_n (n := 25) (i := 2) C dX5_readInto_24 rfl 2 rfl rfl ?_
        refine g_aload_n (n := 26) (i := 1) C dX5_readInto_25 rfl 1 rfl rfl ?_
        refine g_callVi (n := 29) (kd := 5) C E (c_Script_readItem hZ _ x8_2 p1 hp1 M _ h) yi_X5_readItem wd_386 rfl (ox_1 hZ) (by decide) (Nat.le_of_ble_eq_true rfl) dX5_readInto_26 rfl rfl (fun r5 M4 h => ?_)
        refine g_istore (n := 31) (i := 4) C dX5_readInto_29 (Nat.le_of_ble_eq_true rfl) rfl rfl (fun z6 ez6 => ?_)
        replace h := h z6 ez6
        refine g_iload (n := 33) C dX5_readInto_31 0 rfl rfl ?_
        refine g_iconst (n := 34) (-1 : Int32) C dX5_readInto_33 (by decide) rfl ?_
        refine g_icmp_ne (n := 37) (tgt := 39) C dX5_readInto_34 (by decide) rfl (fun c => ?_) (fun c => ?_)
        · replace h := h.1 c
          refine g_iload (n := 41) C dX5_readInto_39 0 rfl rfl ?_
          refine g_istore_n (n := 42) (i := 2) C dX5_readInto_41 rfl (Nat.le_of_ble_eq_true rfl) rfl rfl (fun z7 ez7 => ?_)
          replace h := h z7 ez7
          refine g_iinc (n := 45) (v := (1 : Int32)) C dX5_readInto_42 4 rfl (by decide) (Nat.le_of_ble_eq_true rfl) rfl rfl (fun z8 ez8 => ?_)
          replace h := h z8 ez8
          refine g_goto (tgt := 8) C dX5_readInto_45 (by decide) ?_
          exact g_sub [3, 4, 1, 0] rfl h
        · replace h := h.2 c
          refine g_iload_n (n := 38) (i := 2) C dX5_readInto_37 rfl 3 rfl rfl ?_
          exact g_iret C hr hQ dX5_readInto_38 h
  replace h := h (fun (M : Mem) (x8_2 : Int32) (x8_3 : Int32) => GS Z X 8 [(0, .ref (zb Z + 1)), (1, .ref (zb Z + p1)), (2, .int x8_2), (3, .int x8_3)] [] M) s8
  unfold B_Script_readInto_i at h
  show GS Z X 0 [(0, .ref (zb Z + 1)), (1, .ref (zb Z + p1))] [] M
  refine g_aload_n (n := 1) (i := 1) C dX5_readInto_0 rfl 1 rfl rfl ?_
  refine g_callNv (n := 4) (kd := 4) C E (c_Plan_clear hZ _ p1 hp1 M _ h) yi_X4_clear wn_382 rfl (Hp.o hZ hp1) (by decide) (Nat.le_of_ble_eq_true rfl) dX5_readInto_1 rfl rfl (fun M1 h => ?_)
  refine g_iconst (n := 5) (0 : Int32) C dX5_readInto_4 (by decide) rfl ?_
  refine g_istore_n (n := 6) (i := 2) C dX5_readInto_5 rfl (Nat.le_of_ble_eq_true rfl) rfl rfl (fun z2 ez2 => ?_)
  replace h := h z2 ez2
  refine g_iconst (n := 7) (0 : Int32) C dX5_readInto_6 (by decide) rfl ?_
  refine g_istore_n (n := 8) (i := 3) C dX5_readInto_7 rfl (Nat.le_of_ble_eq_true rfl) rfl rfl (fun z3 ez3 => ?_)
  replace h := h z3 ez3
  exact g_sub [2, 3, 1, 0] rfl h
