def B_MD_in_i (p1 : Int64) (p2 : Int64) (p3 : Int64) (post : Int32 → Mem → Prop)  (M : Mem)  : Prop :=
  ((((lg_cmp p1 p2) < 0) → post (0 : Int32) M) ∧ ((¬ (lg_cmp p1 p2) < 0) → (((0 < (lg_cmp p1 p3)) → post (0 : Int32) M) ∧ ((¬ 0 < (lg_cmp p1 p3)) → post (1 : Int32) M))))
def P_MD_in (M : Mem) (p1 : Int64) (p2 : Int64) (p3 : Int64) (post : Int32 → Mem → Prop) : Prop := B_MD_in_i p1 p2 p3 post M
set_option maxHeartbeats 4000000 in
set_option maxRecDepth 100000 in
theorem c_MD_in {Z : ZT} (hZ : IsM Z) (l : Launch) (p1 : Int64) (p2 : Int64) (p3 : Int64) (M : Mem) (post : Int32 → Mem → Prop) (h : P_MD_in M p1 p2 p3 post) : CtI Z l yX9_in cX9_in 6 (some .boolean) 0 0 [.long p1, .long p2, .long p3] M post := by
  refine ctI (own := RX9) rfl (by decide) (Nat.le_of_ble_eq_true rfl) (fun X C E hr hQ => ?_)
  unfold P_MD_in at h
  unfold B_MD_in_i at h
  show GS Z X 0 [(0, .long p1), (2, .long p2), (4, .long p3)] [] M
  refine g_lload_n (n := 1) (i := 0) C dX9_in_0 rfl 0 rfl rfl ?_
  refine g_lload_n (n := 2) (i := 2) C dX9_in_1 rfl 1 rfl rfl ?_
  refine g_lcmp (n := 3) C dX9_in_2 rfl ?_
  refine g_if_lt (n := 6) (tgt := 17) C dX9_in_3 (by decide) rfl (fun c => ?_) (fun c => ?_)
  · replace h := h.1 c
    refine g_iconst (n := 18) (0 : Int32) C dX9_in_17 (by decide) rfl ?_
    exact g_zret C hr hQ dX9_in_18 rfl h
  · replace h := h.2 c
    refine g_lload_n (n := 7) (i := 0) C dX9_in_6 rfl 0 rfl rfl ?_
    refine g_lload (n := 9) C dX9_in_7 2 rfl rfl ?_
    refine g_lcmp (n := 10) C dX9_in_9 rfl ?_
    refine g_if_gt (n := 13) (tgt := 17) C dX9_in_10 (by decide) rfl (fun c => ?_) (fun c => ?_)
    · replace h := h.1 c
      refine g_iconst (n := 18) (0 : Int32) C dX9_in_17 (by decide) rfl ?_
      exact g_zret C hr hQ dX9_in_18 rfl h
    · replace h := h.2 c
      refine g_iconst (n := 14) (1 : Int32) C dX9_in_13 (by decide) rfl ?_
      refine g_goto (tgt := 18) C dX9_in_14 (by decide) ?_
      exact g_zret C hr hQ dX9_in_18 rfl h
def B_MD_has_i (p1 : Int32) (p2 : Int32) (post : Int32 → Mem → Prop)  (M : Mem)  : Prop :=
  (((¬ ((p1 >>> (p2 &&& 31)) &&& (1 : Int32)) = (1 : Int32)) → post (0 : Int32) M) ∧ ((((p1 >>> (p2 &&& 31)) &&& (1 : Int32)) = (1 : Int32)) → post (1 : Int32) M))
def P_MD_has (M : Mem) (p1 : Int32) (p2 : Int32) (post : Int32 → Mem → Prop) : Prop := B_MD_has_i p1 p2 post M
set_option maxHeartbeats 4000000 in
set_option maxRecDepth 100000 in
theorem c_MD_has {Z : ZT} (hZ : IsM Z) (l : Launch) (p1 : Int32) (p2 : Int32) (M : Mem) (post : Int32 → Mem → Prop) (h : P_MD_has M p1 p2 post) : CtI Z l yX9_has cX9_has 2 (some .boolean) 0 0 [.int p1, .int p2] M post := by
  refine ctI (own := RX9) rfl (by decide) (Nat.le_of_ble_eq_true rfl) (fun X C E hr hQ => ?_)
  unfold P_MD_has at h
  unfold B_MD_has_i at h
  show GS Z X 0 [(0, .int p1), (1, .int p2)] [] M
  refine g_iload_n (n := 1) (i := 0) C dX9_has_0 rfl 0 rfl rfl ?_
  refine g_iload_n (n := 2) (i := 1) C dX9_has_1 rfl 1 rfl rfl ?_
  refine g_ishr (n := 3) C dX9_has_2 rfl ?_
  refine g_iconst (n := 4) (1 : Int32) C dX9_has_3 (by decide) rfl ?_
  refine g_iand (n := 5) C dX9_has_4 rfl ?_
  refine g_iconst (n := 6) (1 : Int32) C dX9_has_5 (by decide) rfl ?_
  refine g_icmp_ne (n := 9) (tgt := 13) C dX9_has_6 (by decide) rfl (fun c => ?_) (fun c => ?_)
  · replace h := h.1 c
    refine g_iconst (n := 14) (0 : Int32) C dX9_has_13 (by decide) rfl ?_
    exact g_zret C hr hQ dX9_has_14 rfl h
  · replace h := h.2 c
    refine g_iconst (n := 10) (1 : Int32) C dX9_has_9 (by decide) rfl ?_
    refine g_goto (tgt := 14) C dX9_has_10 (by decide) ?_
    exact g_zret C hr hQ dX9_has_14 rfl h
def B_MD_copy_i (p1 : Int32) (p2 : Int32) (post : Mem → Prop) (R2 : Mem → Int32 → Prop) (M : Mem)  : Prop :=
  ∀ z1 : Int32, z1 = (0 : Int32) → (R2 M z1)
def B_MD_copy_2 (p1 : Int32) (p2 : Int32) (post : Mem → Prop) (R2 : Mem → Int32 → Prop) (M : Mem) (x2_3 : Int32) : Prop :=
  ((((51 : Int32) ≤ x2_3) → post M) ∧ ((¬ (51 : Int32) ≤ x2_3) → vp_in (p1 + x2_3) 612 ∧ (vp_in (p2 + x2_3) 612 ∧ (∀ M2 : Mem, M2 = mset M 1 ((p2 + x2_3)).toNatClampNeg (M 1 ((p1 + x2_3)).toNatClampNeg) → ∀ z3 : Int32, z3 = x2_3 + (1 : Int32) → (R2 M2 z3)))))
def P_MD_copy (M : Mem) (p1 : Int32) (p2 : Int32) (post : Mem → Prop) : Prop :=
  ∀ (R2 : Mem → Int32 → Prop), (∀ (M : Mem) (x2_3 : Int32), B_MD_copy_2 p1 p2 post R2 M x2_3 → R2 M x2_3) → B_MD_copy_i p1 p2 post R2 M
set_option maxHeartbeats 4000000 in
set_option maxRecDepth 100000 in
theorem c_MD_copy {Z : ZT} (hZ : IsM Z) (l : Launch) (p1 : Int32) (p2 : Int32) (M : Mem) (post : Mem → Prop) (h : P_MD_copy M p1 p2 post) : CtV Z l yX9_copy cX9_copy 4 none 0 0 [.ref (zb Z + 0), .int p1, .int p2] M post := by
  refine ctV (own := RX9) rfl (by decide) (Nat.le_of_ble_eq_true rfl) (fun X C E hr hQ => ?_)
  have s2 : ∀ (M : Mem) (x2_3 : Int32), B_MD_copy_2 p1 p2 post (fun (M : Mem) (x2_3 : Int32) => GS Z X 2 [(0, .ref (zb Z + 0)), (1, .int p1), (2, .int p2), (3, .int x2_3)] [] M) M x2_3 → GS Z X 2 [(0, .ref (zb Z + 0)), (1, .int p1), (2, .int p2), (3, .int x2_3)] [] M := by
    intro M x2_3 h
    unfold B_MD_copy_2 at h
    refine g_iload_n (n := 3) (i := 3) C dX9_copy_2 rfl 3 rfl rfl ?_
    refine g_bipush (n := 5) (51 : Int32) C dX9_copy_3 (by decide) rfl ?_
    refine g_icmp_ge (n := 8) (tgt := 30) C dX9_copy_5 (by decide) rfl (fun c => ?_) (fun c => ?_)
    · replace h := h.1 c
      exact g_vret C hr hQ dX9_copy_30 h
    · replace h := h.2 c
      refine g_aload_n (n := 9) (i := 0) C dX9_copy_8 rfl 0 rfl rfl ?_
      refine gf_X9_7 (n := 12) 1 C E (om_0 hZ) rfl dX9_copy_9 rfl ?_
      refine g_iload_n (n := 13) (i := 2) C dX9_copy_12 rfl 2 rfl rfl ?_
      refine g_iload_n (n := 14) (i := 3) C dX9_copy_13 rfl 3 rfl rfl ?_
      refine g_iadd (n := 15) C dX9_copy_14 rfl ?_
      refine g_aload_n (n := 16) (i := 0) C dX9_copy_15 rfl 0 rfl rfl ?_
      refine gf_X9_7 (n := 19) 1 C E (om_0 hZ) rfl dX9_copy_16 rfl ?_
      refine g_iload_n (n := 20) (i := 1) C dX9_copy_19 rfl 1 rfl rfl ?_
      refine g_iload_n (n := 21) (i := 3) C dX9_copy_20 rfl 3 rfl rfl ?_
      refine g_iadd (n := 22) C dX9_copy_21 rfl ?_
      refine g_iald (n := 23) C E (om_1 hZ) h.1 dX9_copy_22 rfl ?_
      replace h := h.2
      refine g_iast (n := 24) C E (om_1 hZ) h.1 dX9_copy_23 rfl (fun M2 eM2 => ?_)
      replace h := h.2 M2 eM2
      refine g_iinc (n := 27) (v := (1 : Int32)) C dX9_copy_24 3 rfl (by decide) (Nat.le_of_ble_eq_true rfl) rfl rfl (fun z3 ez3 => ?_)
      replace h := h z3 ez3
      refine g_goto (tgt := 2) C dX9_copy_27 (by decide) ?_
      exact g_sub [1, 2, 3, 0] rfl h
  replace h := h (fun (M : Mem) (x2_3 : Int32) => GS Z X 2 [(0, .ref (zb Z + 0)), (1, .int p1), (2, .int p2), (3, .int x2_3)] [] M) s2
  unfold B_MD_copy_i at h
  show GS Z X 0 [(0, .ref (zb Z + 0)), (1, .int p1), (2, .int p2)] [] M
  refine g_iconst (n := 1) (0 : Int32) C dX9_copy_0 (by decide) rfl ?_
  refine g_istore_n (n := 2) (i := 3) C dX9_copy_1 rfl (Nat.le_of_ble_eq_true rfl) rfl rfl (fun z1 ez1 => ?_)
  replace h := h z1 ez1
  exact g_sub [1, 2, 3, 0] rfl h
def B_MD_isGuest_i (p1 : Int32) (post : Int32 → Mem → Prop)  (M : Mem)  : Prop :=
  P_MD_in M p1.toInt64 (0 : Int64) ((M 0 3) - (1 : Int32)).toInt64 (fun (r2 : Int32) (M1 : Mem) => (narrow .boolean (.int r2) = .int r2 ∧ post r2 M1))
def P_MD_isGuest (M : Mem) (p1 : Int32) (post : Int32 → Mem → Prop) : Prop := B_MD_isGuest_i p1 post M
set_option maxHeartbeats 4000000 in
set_option maxRecDepth 100000 in
theorem c_MD_isGuest {Z : ZT} (hZ : IsM Z) (l : Launch) (p1 : Int32) (M : Mem) (post : Int32 → Mem → Prop) (h : P_MD_isGuest M p1 post) : CtI Z l yX9_isGuest cX9_isGuest 2 (some .boolean) 1 25 [.ref (zb Z + 0), .int p1] M post := by
  refine ctI (own := RX9) rfl (by decide) (Nat.le_of_ble_eq_true rfl) (fun X C E hr hQ => ?_)
  unfold P_MD_isGuest at h
  unfold B_MD_isGuest_i at h
  show GS Z X 0 [(0, .ref (zb Z + 0)), (1, .int p1)] [] M
  refine g_iload_n (n := 1) (i := 1) C dX9_isGuest_0 rfl 1 rfl rfl ?_
  refine g_i2l (n := 2) C dX9_isGuest_1 rfl ?_
  refine g_lconst (n := 3) (0 : Int64) C dX9_isGuest_2 (by decide) rfl ?_
  refine g_aload_n (n := 4) (i := 0) C dX9_isGuest_3 rfl 0 rfl rfl ?_
  refine gf_X9_69 (n := 7) C E (om_0 hZ) dX9_isGuest_4 rfl ?_
  refine g_iconst (n := 8) (1 : Int32) C dX9_isGuest_7 (by decide) rfl ?_
  refine g_isub (n := 9) C dX9_isGuest_8 rfl ?_
  refine g_i2l (n := 10) C dX9_isGuest_9 rfl ?_
  refine g_callSi (n := 13) C E (c_MD_in hZ _ p1.toInt64 (0 : Int64) ((M 0 3) - (1 : Int32)).toInt64 M _ h) ys_X9_in wd_914 (by decide) (Nat.le_of_ble_eq_true rfl) dX9_isGuest_10 rfl rfl (fun r2 M1 h => ?_)
  exact g_zret C hr hQ dX9_isGuest_13 h.1 h.2
def B_MD_starts_i  (post : Mem → Prop) (R12 : Mem → Int32 → Prop) (M : Mem)  : Prop :=
  ∀ M1 : Mem, M1 = mset M 0 15 (0 : Int32) → ∀ M2 : Mem, M2 = mset M1 0 17 (0 : Int32) → ∀ z3 : Int32, z3 = (0 : Int32) → (R12 M2 z3)
def B_MD_starts_12  (post : Mem → Prop) (R12 : Mem → Int32 → Prop) (M : Mem) (x12_1 : Int32) : Prop :=
  ((((7 : Int32) ≤ x12_1) → post M) ∧ ((¬ (7 : Int32) ≤ x12_1) → vp_in x12_1 7 ∧ (∀ M4 : Mem, M4 = mset M 10 (x12_1).toNatClampNeg (0 : Int32) → ∀ z5 : Int32, z5 = x12_1 + (1 : Int32) → (R12 M4 z5))))
def P_MD_starts (M : Mem)  (post : Mem → Prop) : Prop :=
  ∀ (R12 : Mem → Int32 → Prop), (∀ (M : Mem) (x12_1 : Int32), B_MD_starts_12  post R12 M x12_1 → R12 M x12_1) → B_MD_starts_i  post R12 M
set_option maxHeartbeats 4000000 in
set_option maxRecDepth 100000 in
theorem c_MD_starts {Z : ZT} (hZ : IsM Z) (l : Launch)  (M : Mem) (post : Mem → Prop) (h : P_MD_starts M  post) : CtV Z l yX9_starts cX9_starts 2 none 0 0 [.ref (zb Z + 0)] M post := by
  refine ctV (own := RX9) rfl (by decide) (Nat.le_of_ble_eq_true rfl) (fun X C E hr hQ => ?_)
  have s12 : ∀ (M : Mem) (x12_1 : Int32), B_MD_starts_12  post (fun (M : Mem) (x12_1 : Int32) => GS Z X 12 [(0, .ref (zb Z + 0)), (1, .int x12_1)] [] M) M x12_1 → GS Z X 12 [(0, .ref (zb Z + 0)), (1, .int x12_1)] [] M := by
    intro M x12_1 h
    unfold B_MD_starts_12 at h
    refine g_iload_n (n := 13) (i := 1) C dX9_starts_12 rfl 1 rfl rfl ?_
    refine g_bipush (n := 15) (7 : Int32) C dX9_starts_13 (by decide) rfl ?_
    refine g_icmp_ge (n := 18) (tgt := 31) C dX9_starts_15 (by decide) rfl (fun c => ?_) (fun c => ?_)
    · replace h := h.1 c
      exact g_vret C hr hQ dX9_starts_31 h
    · replace h := h.2 c
      refine g_aload_n (n := 19) (i := 0) C dX9_starts_18 rfl 0 rfl rfl ?_
      refine gf_X9_37 (n := 22) 10 C E (om_0 hZ) rfl dX9_starts_19 rfl ?_
      refine g_iload_n (n := 23) (i := 1) C dX9_starts_22 rfl 1 rfl rfl ?_
      refine g_iconst (n := 24) (0 : Int32) C dX9_starts_23 (by decide) rfl ?_
      refine g_iast (n := 25) C E (om_10 hZ) h.1 dX9_starts_24 rfl (fun M4 eM4 => ?_)
      replace h := h.2 M4 eM4
      refine g_iinc (n := 28) (v := (1 : Int32)) C dX9_starts_25 1 rfl (by decide) (Nat.le_of_ble_eq_true rfl) rfl rfl (fun z5 ez5 => ?_)
      replace h := h z5 ez5
      refine g_goto (tgt := 12) C dX9_starts_28 (by decide) ?_
      exact g_sub [1, 0] rfl h
  replace h := h (fun (M : Mem) (x12_1 : Int32) => GS Z X 12 [(0, .ref (zb Z + 0)), (1, .int x12_1)] [] M) s12
  unfold B_MD_starts_i at h
  show GS Z X 0 [(0, .ref (zb Z + 0))] [] M
  refine g_aload_n (n := 1) (i := 0) C dX9_starts_0 rfl 0 rfl rfl ?_
  refine g_iconst (n := 2) (0 : Int32) C dX9_starts_1 (by decide) rfl ?_
  refine gp_X9_77 (n := 5) C E (om_0 hZ) dX9_starts_2 rfl (fun M1 eM1 => ?_)
  replace h := h M1 eM1
  refine g_aload_n (n := 6) (i := 0) C dX9_starts_5 rfl 0 rfl rfl ?_
  refine g_iconst (n := 7) (0 : Int32) C dX9_starts_6 (by decide) rfl ?_
  refine gp_X9_80 (n := 10) C E (om_0 hZ) dX9_starts_7 rfl (fun M2 eM2 => ?_)
  replace h := h M2 eM2
  refine g_iconst (n := 11) (0 : Int32) C dX9_starts_10 (by decide) rfl ?_
  refine g_istore_n (n := 12) (i := 1) C dX9_starts_11 rfl (Nat.le_of_ble_eq_true rfl) rfl rfl (fun z3 ez3 => ?_)
  replace h := h z3 ez3
  exact g_sub [1, 0] rfl h
def B_MD_addsGuest_i (p1 : Int32) (p2 : Int32) (p3 : Int32) (p4 : Int32) (p5 : Int32) (post : Mem → Prop)  (M : Mem)  : Prop :=
  ∀ z1 : Int32, z1 = ((5 : Int32) * (M 0 15)) → vp_in z1 35 ∧ (∀ M2 : Mem, M2 = mset M 9 (z1).toNatClampNeg p1 → vp_in (z1 + (1 : Int32)) 35 ∧ (∀ M3 : Mem, M3 = mset M2 9 ((z1 + (1 : Int32))).toNatClampNeg p2 → vp_in (z1 + (2 : Int32)) 35 ∧ (∀ M4 : Mem, M4 = mset M3 9 ((z1 + (2 : Int32))).toNatClampNeg p3 → vp_in (z1 + (3 : Int32)) 35 ∧ (∀ M5 : Mem, M5 = mset M4 9 ((z1 + (3 : Int32))).toNatClampNeg p4 → vp_in (z1 + (4 : Int32)) 35 ∧ (∀ M6 : Mem, M6 = mset M5 9 ((z1 + (4 : Int32))).toNatClampNeg p5 → ∀ M7 : Mem, M7 = mset M6 0 15 ((M6 0 15) + (1 : Int32)) → post M7)))))
def P_MD_addsGuest (M : Mem) (p1 : Int32) (p2 : Int32) (p3 : Int32) (p4 : Int32) (p5 : Int32) (post : Mem → Prop) : Prop := B_MD_addsGuest_i p1 p2 p3 p4 p5 post M
set_option maxHeartbeats 4000000 in
set_option maxRecDepth 100000 in
theorem c_MD_addsGuest {Z : ZT} (hZ : IsM Z) (l : Launch) (p1 : Int32) (p2 : Int32) (p3 : Int32) (p4 : Int32) (p5 : Int32) (M : Mem) (post : Mem → Prop) (h : P_MD_addsGuest M p1 p2 p3 p4 p5 post) : CtV Z l yX9_addsGuest cX9_addsGuest 7 none 0 0 [.ref (zb Z + 0), .int p1, .int p2, .int p3, .int p4, .int p5] M post := by
  refine ctV (own := RX9) rfl (by decide) (Nat.le_of_ble_eq_true rfl) (fun X C E hr hQ => ?_)
  unfold P_MD_addsGuest at h
  unfold B_MD_addsGuest_i at h
  show GS Z X 0 [(0, .ref (zb Z + 0)), (1, .int p1), (2, .int p2), (3, .int p3), (4, .int p4), (5, .int p5)] [] M
  refine g_iconst (n := 1) (5 : Int32) C dX9_addsGuest_0 (by decide) rfl ?_
  refine g_aload_n (n := 2) (i := 0) C dX9_addsGuest_1 rfl 0 rfl rfl ?_
  refine gf_X9_77 (n := 5) C E (om_0 hZ) dX9_addsGuest_2 rfl ?_
  refine g_imul (n := 6) C dX9_addsGuest_5 rfl ?_
  refine g_istore (n := 8) (i := 6) C dX9_addsGuest_6 (Nat.le_of_ble_eq_true rfl) rfl rfl (fun z1 ez1 => ?_)
  replace h := h z1 ez1
  refine g_aload_n (n := 9) (i := 0) C dX9_addsGuest_8 rfl 1 rfl rfl ?_
  refine gf_X9_34 (n := 12) 9 C E (om_0 hZ) rfl dX9_addsGuest_9 rfl ?_
  refine g_iload (n := 14) C dX9_addsGuest_12 0 rfl rfl ?_
  refine g_iload_n (n := 15) (i := 1) C dX9_addsGuest_14 rfl 2 rfl rfl ?_
  refine g_iast (n := 16) C E (om_9 hZ) h.1 dX9_addsGuest_15 rfl (fun M2 eM2 => ?_)
  replace h := h.2 M2 eM2
  refine g_aload_n (n := 17) (i := 0) C dX9_addsGuest_16 rfl 1 rfl rfl ?_
  refine gf_X9_34 (n := 20) 9 C E (om_0 hZ) rfl dX9_addsGuest_17 rfl ?_
  refine g_iload (n := 22) C dX9_addsGuest_20 0 rfl rfl ?_
  refine g_iconst (n := 23) (1 : Int32) C dX9_addsGuest_22 (by decide) rfl ?_
  refine g_iadd (n := 24) C dX9_addsGuest_23 rfl ?_
  refine g_iload_n (n := 25) (i := 2) C dX9_addsGuest_24 rfl 3 rfl rfl ?_
  refine g_iast (n := 26) C E (om_9 hZ) h.1 dX9_addsGuest_25 rfl (fun M3 eM3 => ?_)
  replace h := h.2 M3 eM3
  refine g_aload_n (n := 27) (i := 0) C dX9_addsGuest_26 rfl 1 rfl rfl ?_
  refine gf_X9_34 (n := 30) 9 C E (om_0 hZ) rfl dX9_addsGuest_27 rfl ?_
  refine g_iload (n := 32) C dX9_addsGuest_30 0 rfl rfl ?_
  refine g_iconst (n := 33) (2 : Int32) C dX9_addsGuest_32 (by decide) rfl ?_
  refine g_iadd (n := 34) C dX9_addsGuest_33 rfl ?_
  refine g_iload_n (n := 35) (i := 3) C dX9_addsGuest_34 rfl 4 rfl rfl ?_
  refine g_iast (n := 36) C E (om_9 hZ) h.1 dX9_addsGuest_35 rfl (fun M4 eM4 => ?_)
  replace h := h.2 M4 eM4
  refine g_aload_n (n := 37) (i := 0) C dX9_addsGuest_36 rfl 1 rfl rfl ?_
  refine gf_X9_34 (n := 40) 9 C E (om_0 hZ) rfl dX9_addsGuest_37 rfl ?_
  refine g_iload (n := 42) C dX9_addsGuest_40 0 rfl rfl ?_
  refine g_iconst (n := 43) (3 : Int32) C dX9_addsGuest_42 (by decide) rfl ?_
  refine g_iadd (n := 44) C dX9_addsGuest_43 rfl ?_
  refine g_iload (n := 46) C dX9_addsGuest_44 5 rfl rfl ?_
  refine g_iast (n := 47) C E (om_9 hZ) h.1 dX9_addsGuest_46 rfl (fun M5 eM5 => ?_)
  replace h := h.2 M5 eM5
  refine g_aload_n (n := 48) (i := 0) C dX9_addsGuest_47 rfl 1 rfl rfl ?_
  refine gf_X9_34 (n := 51) 9 C E (om_0 hZ) rfl dX9_addsGuest_48 rfl ?_
  refine g_iload (n := 53) C dX9_addsGuest_51 0 rfl rfl ?_
  refine g_iconst (n := 54) (4 : Int32) C dX9_addsGuest_53 (by decide) rfl ?_
  refine g_iadd (n := 55) C dX9_addsGuest_54 rfl ?_
  refine g_iload (n := 57) C dX9_addsGuest_55 6 rfl rfl ?_
  refine g_iast (n := 58) C E (om_9 hZ) h.1 dX9_addsGuest_57 rfl (fun M6 eM6 => ?_)
  replace h := h.2 M6 eM6
  refine g_aload_n (n := 59) (i := 0) C dX9_addsGuest_58 rfl 1 rfl rfl ?_
  refine g_dup (n := 60) C dX9_addsGuest_59 rfl rfl ?_
  refine gf_X9_77 (n := 63) C E (om_0 hZ) dX9_addsGuest_60 rfl ?_
  refine g_iconst (n := 64) (1 : Int32) C dX9_addsGuest_63 (by decide) rfl ?_
  refine g_iadd (n := 65) C dX9_addsGuest_64 rfl ?_
  refine gp_X9_77 (n := 68) C E (om_0 hZ) dX9_addsGuest_65 rfl (fun M7 eM7 => ?_)
  replace h := h M7 eM7
  exact g_vret C hr hQ dX9_addsGuest_68 h
def B_MD_addsRoom_i (p1 : Int32) (post : Mem → Prop)  (M : Mem)  : Prop :=
  vp_in (M 0 17) 7 ∧ (∀ M1 : Mem, M1 = mset M 10 ((M 0 17)).toNatClampNeg p1 → ∀ M2 : Mem, M2 = mset M1 0 17 ((M1 0 17) + (1 : Int32)) → post M2)
def P_MD_addsRoom (M : Mem) (p1 : Int32) (post : Mem → Prop) : Prop := B_MD_addsRoom_i p1 post M
set_option maxHeartbeats 4000000 in
set_option maxRecDepth 100000 in
theorem c_MD_addsRoom {Z : ZT} (hZ : IsM Z) (l : Launch) (p1 : Int32) (M : Mem) (post : Mem → Prop) (h : P_MD_addsRoom M p1 post) : CtV Z l yX9_addsRoom cX9_addsRoom 2 none 0 0 [.ref (zb Z + 0), .int p1] M post := by
  refine ctV (own := RX9) rfl (by decide) (Nat.le_of_ble_eq_true rfl) (fun X C E hr hQ => ?_)
  unfold P_MD_addsRoom at h
  unfold B_MD_addsRoom_i at h
  show GS Z X 0 [(0, .ref (zb Z + 0)), (1, .int p1)] [] M
  refine g_aload_n (n := 1) (i := 0) C dX9_addsRoom_0 rfl 0 rfl rfl ?_
  refine gf_X9_37 (n := 4) 10 C E (om_0 hZ) rfl dX9_addsRoom_1 rfl ?_
  refine g_aload_n (n := 5) (i := 0) C dX9_addsRoom_4 rfl 0 rfl rfl ?_
  refine gf_X9_80 (n := 8) C E (om_0 hZ) dX9_addsRoom_5 rfl ?_
  refine g_iload_n (n := 9) (i := 1) C dX9_addsRoom_8 rfl 1 rfl rfl ?_
  refine g_iast (n := 10) C E (om_10 hZ) h.1 dX9_addsRoom_9 rfl (fun M1 eM1 => ?_)
  replace h := h.2 M1 eM1
  refine g_aload_n (n := 11) (i := 0) C dX9_addsRoom_10 rfl 0 rfl rfl ?_
  refine g_dup (n := 12) C dX9_addsRoom_11 rfl rfl ?_
  refine gf_X9_80 (n := 15) C E (om_0 hZ) dX9_addsRoom_12 rfl ?_
  refine g_iconst (n := 16) (1 : Int32) C dX9_addsRoom_15 (by decide) rfl ?_
  refine g_iadd (n := 17) C dX9_addsRoom_16 rfl ?_
  refine gp_X9_80 (n := 20) C E (om_0 hZ) dX9_addsRoom_17 rfl (fun M2 eM2 => ?_)
  replace h := h M2 eM2
  exact g_vret C hr hQ dX9_addsRoom_20 h
def B_MD_begins_i  (post : Mem → Prop) (R10 : Mem → Int32 → Prop) (R39 : Mem → Int32 → Prop) (R64 : Mem → Int32 → Prop) (M : Mem)  : Prop :=
  ∀ M1 : Mem, M1 = mset M 0 3 (M 0 15) → ∀ z2 : Int32, z2 = (0 : Int32) → (R10 M1 z2)
def B_MD_begins_10  (post : Mem → Prop) (R10 : Mem → Int32 → Prop) (R39 : Mem → Int32 → Prop) (R64 : Mem → Int32 → Prop) (M : Mem) (x10_1 : Int32) : Prop :=
  ((((51 : Int32) ≤ x10_1) → vp_in (1 : Int32) 612 ∧ (∀ M3 : Mem, M3 = mset M 1 ((1 : Int32)).toNatClampNeg (-4 : Int32) → ∀ z4 : Int32, z4 = (0 : Int32) → (R39 M3 z4))) ∧ ((¬ (51 : Int32) ≤ x10_1) → vp_in x10_1 612 ∧ (∀ M5 : Mem, M5 = mset M 1 (x10_1).toNatClampNeg (0 : Int32) → ∀ z6 : Int32, z6 = x10_1 + (1 : Int32) → (R10 M5 z6))))
def B_MD_begins_39  (post : Mem → Prop) (R10 : Mem → Int32 → Prop) (R39 : Mem → Int32 → Prop) (R64 : Mem → Int32 → Prop) (M : Mem) (x39_1 : Int32) : Prop :=
  ((((7 : Int32) ≤ x39_1) → ∀ z7 : Int32, z7 = (0 : Int32) → (R64 M z7)) ∧ ((¬ (7 : Int32) ≤ x39_1) → vp_in ((30 : Int32) + x39_1) 612 ∧ (∀ M8 : Mem, M8 = mset M 1 (((30 : Int32) + x39_1)).toNatClampNeg (-4 : Int32) → ∀ z9 : Int32, z9 = x39_1 + (1 : Int32) → (R39 M8 z9))))
def B_MD_begins_64  (post : Mem → Prop) (R10 : Mem → Int32 → Prop) (R39 : Mem → Int32 → Prop) (R64 : Mem → Int32 → Prop) (M : Mem) (x64_1 : Int32) : Prop :=
  ((((M 0 3) ≤ x64_1) → ∀ M10 : Mem, M10 = mset M 0 1 (0 : Int32) → ∀ M11 : Mem, M11 = mset M10 0 2 (0 : Int32) → ∀ M12 : Mem, M12 = mset M11 0 8 (0 : Int32) → post M12) ∧ ((¬ (M 0 3) ≤ x64_1) → vp_in ((5 : Int32) * x64_1) 35 ∧ (vp_in x64_1 7 ∧ (∀ M13 : Mem, M13 = mset M 2 (x64_1).toNatClampNeg (M 9 (((5 : Int32) * x64_1)).toNatClampNeg) → vp_in (((5 : Int32) * x64_1) + (1 : Int32)) 35 ∧ (vp_in ((9 : Int32) + x64_1) 612 ∧ (∀ M14 : Mem, M14 = mset M13 1 (((9 : Int32) + x64_1)).toNatClampNeg (M13 9 ((((5 : Int32) * x64_1) + (1 : Int32))).toNatClampNeg) → vp_in (((5 : Int32) * x64_1) + (2 : Int32)) 35 ∧ (vp_in x64_1 7 ∧ (∀ M15 : Mem, M15 = mset M14 3 (x64_1).toNatClampNeg (M14 9 ((((5 : Int32) * x64_1) + (2 : Int32))).toNatClampNeg) → vp_in (((5 : Int32) * x64_1) + (3 : Int32)) 35 ∧ (vp_in x64_1 7 ∧ (∀ M16 : Mem, M16 = mset M15 4 (x64_1).toNatClampNeg (M15 9 ((((5 : Int32) * x64_1) + (3 : Int32))).toNatClampNeg) → vp_in (((5 : Int32) * x64_1) + (4 : Int32)) 35 ∧ (vp_in x64_1 7 ∧ (∀ M17 : Mem, M17 = mset M16 5 (x64_1).toNatClampNeg (M16 9 ((((5 : Int32) * x64_1) + (4 : Int32))).toNatClampNeg) → vp_in x64_1 7 ∧ (vp_in ((16 : Int32) + x64_1) 612 ∧ (∀ M18 : Mem, M18 = mset M17 1 (((16 : Int32) + x64_1)).toNatClampNeg (M17 10 (x64_1).toNatClampNeg) → ∀ z19 : Int32, z19 = x64_1 + (1 : Int32) → (R64 M18 z19)))))))))))))))
def P_MD_begins (M : Mem)  (post : Mem → Prop) : Prop :=
  ∀ (R10 : Mem → Int32 → Prop) (R39 : Mem → Int32 → Prop) (R64 : Mem → Int32 → Prop), (∀ (M : Mem) (x10_1 : Int32), B_MD_begins_10  post R10 R39 R64 M x10_1 → R10 M x10_1) → (∀ (M : Mem) (x39_1 : Int32), B_MD_begins_39  post R10 R39 R64 M x39_1 → R39 M x39_1) → (∀ (M : Mem) (x64_1 : Int32), B_MD_begins_64  post R10 R39 R64 M x64_1 → R64 M x64_1) → B_MD_begins_i  post R10 R39 R64 M
set_option maxHeartbeats 4000000 in
set_option maxRecDepth 100000 in
theorem c_MD_begins {Z : ZT} (hZ : IsM Z) (l : Launch)  (M : Mem) (post : Mem → Prop) (h : P_MD_begins M  post) : CtV Z l yX9_begins cX9_begins 2 none 0 0 [.ref (zb Z + 0)] M post := by
  refine ctV (own := RX9) rfl (by decide) (Nat.le_of_ble_eq_true rfl) (fun X C E hr hQ => ?_)
  have s10 : ∀ (M : Mem) (x10_1 : Int32), B_MD_begins_10  post (fun (M : Mem) (x10_1 : Int32) => GS Z X 10 [(0, .ref (zb Z + 0)), (1, .int x10_1)] [] M) (fun (M : Mem) (x39_1 : Int32) => GS Z X 39 [(0, .ref (zb Z + 0)), (1, .int x39_1)] [] M) (fun (M : Mem) (x64_1 : Int32) => GS Z X 64 [(0, .ref (zb Z + 0)), (1, .int x64_1)] [] M) M x10_1 → GS Z X 10 [(0, .ref (zb Z + 0)), (1, .int x10_1)] [] M := by
    intro M x10_1 h
    unfold B_MD_begins_10 at h
    refine g_iload_n (n := 11) (i := 1) C dX9_begins_10 rfl 1 rfl rfl ?_
    refine g_bipush (n := 13) (51 : Int32) C dX9_begins_11 (by decide) rfl ?_
    refine g_icmp_ge (n := 16) (tgt := 29) C dX9_begins_13 (by decide) rfl (fun c => ?_) (fun c => ?_)
    · replace h := h.1 c
      refine g_aload_n (n := 30) (i := 0) C dX9_begins_29 rfl 0 rfl rfl ?_
      refine gf_X9_7 (n := 33) 1 C E (om_0 hZ) rfl dX9_begins_30 rfl ?_
      refine g_iconst (n := 34) (1 : Int32) C dX9_begins_33 (by decide) rfl ?_
      refine g_bipush (n := 36) (-4 : Int32) C dX9_begins_34 (by decide) rfl ?_
      refine g_iast (n := 37) C E (om_1 hZ) h.1 dX9_begins_36 rfl (fun M3 eM3 => ?_)
      replace h := h.2 M3 eM3
      refine g_iconst (n := 38) (0 : Int32) C dX9_begins_37 (by decide) rfl ?_
      refine g_istore_n (n := 39) (i := 1) C dX9_begins_38 rfl (Nat.le_of_ble_eq_true rfl) rfl rfl (fun z4 ez4 => ?_)
      replace h := h z4 ez4
      exact g_sub [1, 0] rfl h
    · replace h := h.2 c
      refine g_aload_n (n := 17) (i := 0) C dX9_begins_16 rfl 0 rfl rfl ?_
      refine gf_X9_7 (n := 20) 1 C E (om_0 hZ) rfl dX9_begins_17 rfl ?_
      refine g_iload_n (n := 21) (i := 1) C dX9_begins_20 rfl 1 rfl rfl ?_
      refine g_iconst (n := 22) (0 : Int32) C dX9_begins_21 (by decide) rfl ?_
      refine g_iast (n := 23) C E (om_1 hZ) h.1 dX9_begins_22 rfl (fun M5 eM5 => ?_)
      replace h := h.2 M5 eM5
      refine g_iinc (n := 26) (v := (1 : Int32)) C dX9_begins_23 1 rfl (by decide) (Nat.le_of_ble_eq_true rfl) rfl rfl (fun z6 ez6 => ?_)
      replace h := h z6 ez6
      refine g_goto (tgt := 10) C dX9_begins_26 (by decide) ?_
      exact g_sub [1, 0] rfl h
  have s39 : ∀ (M : Mem) (x39_1 : Int32), B_MD_begins_39  post (fun (M : Mem) (x10_1 : Int32) => GS Z X 10 [(0, .ref (zb Z + 0)), (1, .int x10_1)] [] M) (fun (M : Mem) (x39_1 : Int32) => GS Z X 39 [(0, .ref (zb Z + 0)), (1, .int x39_1)] [] M) (fun (M : Mem) (x64_1 : Int32) => GS Z X 64 [(0, .ref (zb Z + 0)), (1, .int x64_1)] [] M) M x39_1 → GS Z X 39 [(0, .ref (zb Z + 0)), (1, .int x39_1)] [] M := by
    intro M x39_1 h
    unfold B_MD_begins_39 at h
    refine g_iload_n (n := 40) (i := 1) C dX9_begins_39 rfl 1 rfl rfl ?_
    refine g_bipush (n := 42) (7 : Int32) C dX9_begins_40 (by decide) rfl ?_
    refine g_icmp_ge (n := 45) (tgt := 62) C dX9_begins_42 (by decide) rfl (fun c => ?_) (fun c => ?_)
    · replace h := h.1 c
      refine g_iconst (n := 63) (0 : Int32) C dX9_begins_62 (by decide) rfl ?_
      refine g_istore_n (n := 64) (i := 1) C dX9_begins_63 rfl (Nat.le_of_ble_eq_true rfl) rfl rfl (fun z7 ez7 => ?_)
      replace h := h z7 ez7
      exact g_sub [1, 0] rfl h
    · replace h := h.2 c
      refine g_aload_n (n := 46) (i := 0) C dX9_begins_45 rfl 0 rfl rfl ?_
      refine gf_X9_7 (n := 49) 1 C E (om_0 hZ) rfl dX9_begins_46 rfl ?_
      refine g_bipush (n := 51) (30 : Int32) C dX9_begins_49 (by decide) rfl ?_
      refine g_iload_n (n := 52) (i := 1) C dX9_begins_51 rfl 1 rfl rfl ?_
      refine g_iadd (n := 53) C dX9_begins_52 rfl ?_
      refine g_bipush (n := 55) (-4 : Int32) C dX9_begins_53 (by decide) rfl ?_
      refine g_iast (n := 56) C E (om_1 hZ) h.1 dX9_begins_55 rfl (fun M8 eM8 => ?_)
      replace h := h.2 M8 eM8
      refine g_iinc (n := 59) (v := (1 : Int32)) C dX9_begins_56 1 rfl (by decide) (Nat.le_of_ble_eq_true rfl) rfl rfl (fun z9 ez9 => ?_)
      replace h := h z9 ez9
      refine g_goto (tgt := 39) C dX9_begins_59 (by decide) ?_
      exact g_sub [1, 0] rfl h
  have s64 : ∀ (M : Mem) (x64_1 : Int32), B_MD_begins_64  post (fun (M : Mem) (x10_1 : Int32) => GS Z X 10 [(0, .ref (zb Z + 0)), (1, .int x10_1)] [] M) (fun (M : Mem) (x39_1 : Int32) => GS Z X 39 [(0, .ref (zb Z + 0)), (1, .int x39_1)] [] M) (fun (M : Mem) (x64_1 : Int32) => GS Z X 64 [(0, .ref (zb Z + 0)), (1, .int x64_1)] [] M) M x64_1 → GS Z X 64 [(0, .ref (zb Z + 0)), (1, .int x64_1)] [] M := by
    intro M x64_1 h
    unfold B_MD_begins_64 at h
    refine g_iload_n (n := 65) (i := 1) C dX9_begins_64 rfl 1 rfl rfl ?_
    refine g_aload_n (n := 66) (i := 0) C dX9_begins_65 rfl 0 rfl rfl ?_
    refine gf_X9_69 (n := 69) C E (om_0 hZ) dX9_begins_66 rfl ?_
    refine g_icmp_ge (n := 72) (tgt := 174) C dX9_begins_69 (by decide) rfl (fun c => ?_) (fun c => ?_)
    · replace h := h.1 c
      refine g_aload_n (n := 175) (i := 0) C dX9_begins_174 rfl 0 rfl rfl ?_
      refine g_iconst (n := 176) (0 : Int32) C dX9_begins_175 (by decide) rfl ?_
      refine gp_X9_83 (n := 179) C E (om_0 hZ) dX9_begins_176 rfl (fun M10 eM10 => ?_)
      replace h := h M10 eM10
      refine g_aload_n (n := 180) (i := 0) C dX9_begins_179 rfl 0 rfl rfl ?_
      refine g_iconst (n := 181) (0 : Int32) C dX9_begins_180 (by decide) rfl ?_
      refine gp_X9_86 (n := 184) C E (om_0 hZ) dX9_begins_181 rfl (fun M11 eM11 => ?_)
      replace h := h M11 eM11
      refine g_aload_n (n := 185) (i := 0) C dX9_begins_184 rfl 0 rfl rfl ?_
      refine g_iconst (n := 186) (0 : Int32) C dX9_begins_185 (by decide) rfl ?_
      refine gp_X9_89 (n := 189) C E (om_0 hZ) dX9_begins_186 rfl (fun M12 eM12 => ?_)
      replace h := h M12 eM12
      exact g_vret C hr hQ dX9_begins_189 h
    · replace h := h.2 c
      refine g_aload_n (n := 73) (i := 0) C dX9_begins_72 rfl 0 rfl rfl ?_
      refine gf_X9_13 (n := 76) 2 C E (om_0 hZ) rfl dX9_begins_73 rfl ?_
      refine g_iload_n (n := 77) (i := 1) C dX9_begins_76 rfl 1 rfl rfl ?_
      refine g_aload_n (n := 78) (i := 0) C dX9_begins_77 rfl 0 rfl rfl ?_
      refine gf_X9_34 (n := 81) 9 C E (om_0 hZ) rfl dX9_begins_78 rfl ?_
      refine g_iconst (n := 82) (5 : Int32) C dX9_begins_81 (by decide) rfl ?_
      refine g_iload_n (n := 83) (i := 1) C dX9_begins_82 rfl 1 rfl rfl ?_
      refine g_imul (n := 84) C dX9_begins_83 rfl ?_
      refine g_iald (n := 85) C E (om_9 hZ) h.1 dX9_begins_84 rfl ?_
      replace h := h.2
      refine g_iast (n := 86) C E (om_2 hZ) h.1 dX9_begins_85 rfl (fun M13 eM13 => ?_)
      replace h := h.2 M13 eM13
      refine g_aload_n (n := 87) (i := 0) C dX9_begins_86 rfl 0 rfl rfl ?_
      refine gf_X9_7 (n := 90) 1 C E (om_0 hZ) rfl dX9_begins_87 rfl ?_
      refine g_bipush (n := 92) (9 : Int32) C dX9_begins_90 (by decide) rfl ?_
      refine g_iload_n (n := 93) (i := 1) C dX9_begins_92 rfl 1 rfl rfl ?_
      refine g_iadd (n := 94) C dX9_begins_93 rfl ?_
      refine g_aload_n (n := 95) (i := 0) C dX9_begins_94 rfl 0 rfl rfl ?_
      refine gf_X9_34 (n := 98) 9 C E (om_0 hZ) rfl dX9_begins_95 rfl ?_
      refine g_iconst (n := 99) (5 : Int32) C dX9_begins_98 (by decide) rfl ?_
      refine g_iload_n (n := 100) (i := 1) C dX9_begins_99 rfl 1 rfl rfl ?_
      refine g_imul (n := 101) C dX9_begins_100 rfl ?_
      refine g_iconst (n := 102) (1 : Int32) C dX9_begins_101 (by decide) rfl ?_
      refine g_iadd (n := 103) C dX9_begins_102 rfl ?_
      refine g_iald (n := 104) C E (om_9 hZ) h.1 dX9_begins_103 rfl ?_
      replace h := h.2
      refine g_iast (n := 105) C E (om_1 hZ) h.1 dX9_begins_104 rfl (fun M14 eM14 => ?_)
      replace h := h.2 M14 eM14
      refine g_aload_n (n := 106) (i := 0) C dX9_begins_105 rfl 0 rfl rfl ?_
      refine gf_X9_16 (n := 109) 3 C E (om_0 hZ) rfl dX9_begins_106 rfl ?_
      refine g_iload_n (n := 110) (i := 1) C dX9_begins_109 rfl 1 rfl rfl ?_
      refine g_aload_n (n := 111) (i := 0) C dX9_begins_110 rfl 0 rfl rfl ?_
      refine gf_X9_34 (n := 114) 9 C E (om_0 hZ) rfl dX9_begins_111 rfl ?_
      refine g_iconst (n := 115) (5 : Int32) C dX9_begins_114 (by decide) rfl ?_
      refine g_iload_n (n := 116) (i := 1) C dX9_begins_115 rfl 1 rfl rfl ?_
      refine g_imul (n := 117) C dX9_begins_116 rfl ?_
      refine g_iconst (n := 118) (2 : Int32) C dX9_begins_117 (by decide) rfl ?_
      refine g_iadd (n := 119) C dX9_begins_118 rfl ?_
      refine g_iald (n := 120) C E (om_9 hZ) h.1 dX9_begins_119 rfl ?_
      replace h := h.2
      refine g_iast (n := 121) C E (om_3 hZ) h.1 dX9_begins_120 rfl (fun M15 eM15 => ?_)
      replace h := h.2 M15 eM15
      refine g_aload_n (n := 122) (i := 0) C dX9_begins_121 rfl 0 rfl rfl ?_
      refine gf_X9_19 (n := 125) 4 C E (om_0 hZ) rfl dX9_begins_122 rfl ?_
      refine g_iload_n (n := 126) (i := 1) C dX9_begins_125 rfl 1 rfl rfl ?_
      refine g_aload_n (n := 127) (i := 0) C dX9_begins_126 rfl 0 rfl rfl ?_
      refine gf_X9_34 (n := 130) 9 C E (om_0 hZ) rfl dX9_begins_127 rfl ?_
      refine g_iconst (n := 131) (5 : Int32) C dX9_begins_130 (by decide) rfl ?_
      refine g_iload_n (n := 132) (i := 1) C dX9_begins_131 rfl 1 rfl rfl ?_
      refine g_imul (n := 133) C dX9_begins_132 rfl ?_
      refine g_iconst (n := 134) (3 : Int32) C dX9_begins_133 (by decide) rfl ?_
      refine g_iadd (n := 135) C dX9_begins_134 rfl ?_
      refine g_iald (n := 136) C E (om_9 hZ) h.1 dX9_begins_135 rfl ?_
      replace h := h.2
      refine g_iast (n := 137) C E (om_4 hZ) h.1 dX9_begins_136 rfl (fun M16 eM16 => ?_)
      replace h := h.2 M16 eM16
      refine g_aload_n (n := 138) (i := 0) C dX9_begins_137 rfl 0 rfl rfl ?_
      refine gf_X9_22 (n := 141) 5 C E (om_0 hZ) rfl dX9_begins_138 rfl ?_
      refine g_iload_n (n := 142) (i := 1) C dX9_begins_141 rfl 1 rfl rfl ?_
      refine g_aload_n (n := 143) (i := 0) C dX9_begins_142 rfl 0 rfl rfl ?_
      refine gf_X9_34 (n := 146) 9 C E (om_0 hZ) rfl dX9_begins_143 rfl ?_
      refine g_iconst (n := 147) (5 : Int32) C dX9_begins_146 (by decide) rfl ?_
      refine g_iload_n (n := 148) (i := 1) C dX9_begins_147 rfl 1 rfl rfl ?_
      refine g_imul (n := 149) C dX9_begins_148 rfl ?_
      refine g_iconst (n := 150) (4 : Int32) C dX9_begins_149 (by decide) rfl ?_
      refine g_iadd (n := 151) C dX9_begins_150 rfl ?_
      refine g_iald (n := 152) C E (om_9 hZ) h.1 dX9_begins_151 rfl ?_
      replace h := h.2
      refine g_iast (n := 153) C E (om_5 hZ) h.1 dX9_begins_152 rfl (fun M17 eM17 => ?_)
      replace h := h.2 M17 eM17
      refine g_aload_n (n := 154) (i := 0) C dX9_begins_153 rfl 0 rfl rfl ?_
      refine gf_X9_7 (n := 157) 1 C E (om_0 hZ) rfl dX9_begins_154 rfl ?_
      refine g_bipush (n := 159) (16 : Int32) C dX9_begins_157 (by decide) rfl ?_
      refine g_iload_n (n := 160) (i := 1) C dX9_begins_159 rfl 1 rfl rfl ?_
      refine g_iadd (n := 161) C dX9_begins_160 rfl ?_
      refine g_aload_n (n := 162) (i := 0) C dX9_begins_161 rfl 0 rfl rfl ?_
      refine gf_X9_37 (n := 165) 10 C E (om_0 hZ) rfl dX9_begins_162 rfl ?_
      refine g_iload_n (n := 166) (i := 1) C dX9_begins_165 rfl 1 rfl rfl ?_
      refine g_iald (n := 167) C E (om_10 hZ) h.1 dX9_begins_166 rfl ?_
      replace h := h.2
      refine g_iast (n := 168) C E (om_1 hZ) h.1 dX9_begins_167 rfl (fun M18 eM18 => ?_)
      replace h := h.2 M18 eM18
      refine g_iinc (n := 171) (v := (1 : Int32)) C dX9_begins_168 1 rfl (by decide) (Nat.le_of_ble_eq_true rfl) rfl rfl (fun z19 ez19 => ?_)
      replace h := h z19 ez19
      refine g_goto (tgt := 64) C dX9_begins_171 (by decide) ?_
      exact g_sub [1, 0] rfl h
  replace h := h (fun (M : Mem) (x10_1 : Int32) => GS Z X 10 [(0, .ref (zb Z + 0)), (1, .int x10_1)] [] M) (fun (M : Mem) (x39_1 : Int32) => GS Z X 39 [(0, .ref (zb Z + 0)), (1, .int x39_1)] [] M) (fun (M : Mem) (x64_1 : Int32) => GS Z X 64 [(0, .ref (zb Z + 0)), (1, .int x64_1)] [] M) s10 s39 s64
  unfold B_MD_begins_i at h
  show GS Z X 0 [(0, .ref (zb Z + 0))] [] M
  refine g_aload_n (n := 1) (i := 0) C dX9_begins_0 rfl 0 rfl rfl ?_
  refine g_aload_n (n := 2) (i := 0) C dX9_begins_1 rfl 0 rfl rfl ?_
  refine gf_X9_77 (n := 5) C E (om_0 hZ) dX9_begins_2 rfl ?_
  refine gp_X9_69 (n := 8) C E (om_0 hZ) dX9_begins_5 rfl (fun M1 eM1 => ?_)
  replace h := h M1 eM1
  refine g_iconst (n := 9) (0 : Int32) C dX9_begins_8 (by decide) rfl ?_
  refine g_istore_n (n := 10) (i := 1) C dX9_begins_9 rfl (Nat.le_of_ble_eq_true rfl) rfl rfl (fun z2 ez2 => ?_)
  replace h := h z2 ez2
  exact g_sub [1, 0] rfl h
def B_MD_write_i (p1 : Int32) (post : Int32 → Mem → Prop)  (M : Mem)  : Prop :=
  P_MD_in M p1.toInt64 (32 : Int64) (126 : Int64) (fun (r2 : Int32) (M1 : Mem) => (((¬ r2 = 0) → (((¬ (M1 0 12) = (200 : Int32)) → vp_in (M1 0 12) 200 ∧ (∀ M3 : Mem, M3 = mset M1 8 ((M1 0 12)).toNatClampNeg p1 → ∀ M4 : Mem, M4 = mset M3 0 12 ((M3 0 12) + (1 : Int32)) → post (M4 0 12) M4)) ∧ (((M1 0 12) = (200 : Int32)) → post (-3 : Int32) M1))) ∧ ((r2 = 0) → post (-1 : Int32) M1)))
def P_MD_write (M : Mem) (p1 : Int32) (post : Int32 → Mem → Prop) : Prop := B_MD_write_i p1 post M
set_option maxHeartbeats 4000000 in
set_option maxRecDepth 100000 in
theorem c_MD_write {Z : ZT} (hZ : IsM Z) (l : Launch) (p1 : Int32) (M : Mem) (post : Int32 → Mem → Prop) (h : P_MD_write M p1 post) : CtI Z l yX9_write cX9_write 2 (some .int) 1 25 [.ref (zb Z + 0), .int p1] M post := by
  refine ctI (own := RX9) rfl (by decide) (Nat.le_of_ble_eq_true rfl) (fun X C E hr hQ => ?_)
  unfold P_MD_write at h
  unfold B_MD_write_i at h
  show GS Z X 0 [(0, .ref (zb Z + 0)), (1, .int p1)] [] M
  refine g_iload_n (n := 1) (i := 1) C dX9_write_0 rfl 1 rfl rfl ?_
  refine g_i2l (n := 2) C dX9_write_1 rfl ?_
  refine g_ldc2 (n := 5) (32 : Int64) C wd_912 dX9_write_2 rfl ?_
  refine g_ldc2 (n := 8) (126 : Int64) C wd_913 dX9_write_5 rfl ?_
  refine g_callSi (n := 11) C E (c_MD_in hZ _ p1.toInt64 (32 : Int64) (126 : Int64) M _ h) ys_X9_in wd_914 (by decide) (Nat.le_of_ble_eq_true rfl) dX9_write_8 rfl rfl (fun r2 M1 h => ?_)
  refine g_if_ne (n := 14) (tgt := 16) C dX9_write_11 (by decide) rfl (fun c => ?_) (fun c => ?_)
  · replace h := h.1 c
    refine g_aload_n (n := 17) (i := 0) C dX9_write_16 rfl 0 rfl rfl ?_
    refine gf_X9_96 (n := 20) C E (om_0 hZ) dX9_write_17 rfl ?_
    refine g_sipush (n := 23) (200 : Int32) C dX9_write_20 (by decide) rfl ?_
    refine g_icmp_ne (n := 26) (tgt := 29) C dX9_write_23 (by decide) rfl (fun c => ?_) (fun c => ?_)
    · replace h := h.1 c
      refine g_aload_n (n := 30) (i := 0) C dX9_write_29 rfl 0 rfl rfl ?_
      refine gf_X9_31 (n := 33) 8 C E (om_0 hZ) rfl dX9_write_30 rfl ?_
      refine g_aload_n (n := 34) (i := 0) C dX9_write_33 rfl 0 rfl rfl ?_
      refine gf_X9_96 (n := 37) C E (om_0 hZ) dX9_write_34 rfl ?_
      refine g_iload_n (n := 38) (i := 1) C dX9_write_37 rfl 1 rfl rfl ?_
      refine g_iast (n := 39) C E (om_8 hZ) h.1 dX9_write_38 rfl (fun M3 eM3 => ?_)
      replace h := h.2 M3 eM3
      refine g_aload_n (n := 40) (i := 0) C dX9_write_39 rfl 0 rfl rfl ?_
      refine g_dup (n := 41) C dX9_write_40 rfl rfl ?_
      refine gf_X9_96 (n := 44) C E (om_0 hZ) dX9_write_41 rfl ?_
      refine g_iconst (n := 45) (1 : Int32) C dX9_write_44 (by decide) rfl ?_
      refine g_iadd (n := 46) C dX9_write_45 rfl ?_
      refine gp_X9_96 (n := 49) C E (om_0 hZ) dX9_write_46 rfl (fun M4 eM4 => ?_)
      replace h := h M4 eM4
      refine g_aload_n (n := 50) (i := 0) C dX9_write_49 rfl 0 rfl rfl ?_
      refine gf_X9_96 (n := 53) C E (om_0 hZ) dX9_write_50 rfl ?_
      exact g_iret C hr hQ dX9_write_53 h
    · replace h := h.2 c
      refine g_bipush (n := 28) (-3 : Int32) C dX9_write_26 (by decide) rfl ?_
      exact g_iret C hr hQ dX9_write_28 h
  · replace h := h.2 c
    refine g_iconst (n := 15) (-1 : Int32) C dX9_write_14 (by decide) rfl ?_
    exact g_iret C hr hQ dX9_write_15 h
def B_MD_wipe_i  (post : Int32 → Mem → Prop)  (M : Mem)  : Prop :=
  ∀ z1 : Int32, z1 = (M 0 12) → ∀ M2 : Mem, M2 = mset M 0 12 (0 : Int32) → post z1 M2
def P_MD_wipe (M : Mem)  (post : Int32 → Mem → Prop) : Prop := B_MD_wipe_i  post M
set_option maxHeartbeats 4000000 in
set_option maxRecDepth 100000 in
theorem c_MD_wipe {Z : ZT} (hZ : IsM Z) (l : Launch)  (M : Mem) (post : Int32 → Mem → Prop) (h : P_MD_wipe M  post) : CtI Z l yX9_wipe cX9_wipe 2 (some .int) 0 0 [.ref (zb Z + 0)] M post := by
  refine ctI (own := RX9) rfl (by decide) (Nat.le_of_ble_eq_true rfl) (fun X C E hr hQ => ?_)
  unfold P_MD_wipe at h
  unfold B_MD_wipe_i at h
  show GS Z X 0 [(0, .ref (zb Z + 0))] [] M
  refine g_aload_n (n := 1) (i := 0) C dX9_wipe_0 rfl 0 rfl rfl ?_
  refine gf_X9_96 (n := 4) C E (om_0 hZ) dX9_wipe_1 rfl ?_
  refine g_istore_n (n := 5) (i := 1) C dX9_wipe_4 rfl (Nat.le_of_ble_eq_true rfl) rfl rfl (fun z1 ez1 => ?_)
  replace h := h z1 ez1
  refine g_aload_n (n := 6) (i := 0) C dX9_wipe_5 rfl 1 rfl rfl ?_
  refine g_iconst (n := 7) (0 : Int32) C dX9_wipe_6 (by decide) rfl ?_
  refine gp_X9_96 (n := 10) C E (om_0 hZ) dX9_wipe_7 rfl (fun M2 eM2 => ?_)
  replace h := h M2 eM2
  refine g_iload_n (n := 11) (i := 1) C dX9_wipe_10 rfl 0 rfl rfl ?_
  exact g_iret C hr hQ dX9_wipe_11 h
def B_MD_letterAt_i (p1 : Int32) (post : Int32 → Mem → Prop)  (M : Mem)  : Prop :=
  ((((M 0 12) ≤ p1) → post (-1 : Int32) M) ∧ ((¬ (M 0 12) ≤ p1) → vp_in p1 200 ∧ (post (M 8 (p1).toNatClampNeg) M)))
def P_MD_letterAt (M : Mem) (p1 : Int32) (post : Int32 → Mem → Prop) : Prop := B_MD_letterAt_i p1 post M
set_option maxHeartbeats 4000000 in
set_option maxRecDepth 100000 in
theorem c_MD_letterAt {Z : ZT} (hZ : IsM Z) (l : Launch) (p1 : Int32) (M : Mem) (post : Int32 → Mem → Prop) (h : P_MD_letterAt M p1 post) : CtI Z l yX9_letterAt cX9_letterAt 2 (some .int) 0 0 [.ref (zb Z + 0), .int p1] M post := by
  refine ctI (own := RX9) rfl (by decide) (Nat.le_of_ble_eq_true rfl) (fun X C E hr hQ => ?_)
  unfold P_MD_letterAt at h
  unfold B_MD_letterAt_i at h
  show GS Z X 0 [(0, .ref (zb Z + 0)), (1, .int p1)] [] M
  refine g_iload_n (n := 1) (i := 1) C dX9_letterAt_0 rfl 1 rfl rfl ?_
  refine g_aload_n (n := 2) (i := 0) C dX9_letterAt_1 rfl 0 rfl rfl ?_
  refine gf_X9_96 (n := 5) C E (om_0 hZ) dX9_letterAt_2 rfl ?_
  refine g_icmp_ge (n := 8) (tgt := 17) C dX9_letterAt_5 (by decide) rfl (fun c => ?_) (fun c => ?_)
  · replace h := h.1 c
    refine g_iconst (n := 18) (-1 : Int32) C dX9_letterAt_17 (by decide) rfl ?_
    exact g_iret C hr hQ dX9_letterAt_18 h
  · replace h := h.2 c
    refine g_aload_n (n := 9) (i := 0) C dX9_letterAt_8 rfl 0 rfl rfl ?_
    refine gf_X9_31 (n := 12) 8 C E (om_0 hZ) rfl dX9_letterAt_9 rfl ?_
    refine g_iload_n (n := 13) (i := 1) C dX9_letterAt_12 rfl 1 rfl rfl ?_
    refine g_iald (n := 14) C E (om_8 hZ) h.1 dX9_letterAt_13 rfl ?_
    replace h := h.2
    refine g_goto (tgt := 18) C dX9_letterAt_14 (by decide) ?_
    exact g_iret C hr hQ dX9_letterAt_18 h
def B_MD_takesNumber_i (p1 : Int32) (p2 : Int32) (p3 : Int32) (post : Int32 → Mem → Prop) (R11 : Mem → Int32 → Prop) (R79 : Mem → Int32 → Prop) (M : Mem)  : Prop :=
  ∀ z1 : Int32, z1 = (M 0 13) → ∀ M2 : Mem, M2 = mset M 0 14 (0 : Int32) → (R11 M2 z1)
def B_MD_takesNumber_11 (p1 : Int32) (p2 : Int32) (p3 : Int32) (post : Int32 → Mem → Prop) (R11 : Mem → Int32 → Prop) (R79 : Mem → Int32 → Prop) (M : Mem) (x11_4 : Int32) : Prop :=
  ((((2 : Int32) ≤ ((M 0 13) - x11_4)) → (R79 M x11_4)) ∧ ((¬ (2 : Int32) ≤ ((M 0 13) - x11_4)) → P_MD_letterAt M (M 0 13) (fun (r4 : Int32) (M3 : Mem) => P_MD_in M3 r4.toInt64 (48 : Int64) (57 : Int64) (fun (r6 : Int32) (M5 : Mem) => (((r6 = 0) → (R79 M5 x11_4)) ∧ ((¬ r6 = 0) → P_MD_letterAt M5 (M5 0 13) (fun (r8 : Int32) (M7 : Mem) => ∀ M9 : Mem, M9 = mset M7 0 14 ((((10 : Int32) * (M5 0 14)) + r8) - (48 : Int32)) → ∀ M10 : Mem, M10 = mset M9 0 13 ((M9 0 13) + (1 : Int32)) → (R11 M10 x11_4))))))))
def B_MD_takesNumber_79 (p1 : Int32) (p2 : Int32) (p3 : Int32) (post : Int32 → Mem → Prop) (R11 : Mem → Int32 → Prop) (R79 : Mem → Int32 → Prop) (M : Mem) (x79_4 : Int32) : Prop :=
  ((((M 0 13) = x79_4) → post (0 : Int32) M) ∧ ((¬ (M 0 13) = x79_4) → P_MD_in M (M 0 14).toInt64 p1.toInt64 p2.toInt64 (fun (r12 : Int32) (M11 : Mem) => (((r12 = 0) → post (0 : Int32) M11) ∧ ((¬ r12 = 0) → P_MD_letterAt M11 (M11 0 13) (fun (r14 : Int32) (M13 : Mem) => (((r14 = p3) → ∀ M15 : Mem, M15 = mset M13 0 13 ((M13 0 13) + (1 : Int32)) → post (1 : Int32) M15) ∧ ((¬ r14 = p3) → post (0 : Int32) M13))))))))
def P_MD_takesNumber (M : Mem) (p1 : Int32) (p2 : Int32) (p3 : Int32) (post : Int32 → Mem → Prop) : Prop :=
  ∀ (R11 : Mem → Int32 → Prop) (R79 : Mem → Int32 → Prop), (∀ (M : Mem) (x11_4 : Int32), B_MD_takesNumber_11 p1 p2 p3 post R11 R79 M x11_4 → R11 M x11_4) → (∀ (M : Mem) (x79_4 : Int32), B_MD_takesNumber_79 p1 p2 p3 post R11 R79 M x79_4 → R79 M x79_4) → B_MD_takesNumber_i p1 p2 p3 post R11 R79 M
set_option maxHeartbeats 4000000 in
set_option maxRecDepth 100000 in
theorem c_MD_takesNumber {Z : ZT} (hZ : IsM Z) (l : Launch) (p1 : Int32) (p2 : Int32) (p3 : Int32) (M : Mem) (post : Int32 → Mem → Prop) (h : P_MD_takesNumber M p1 p2 p3 post) : CtI Z l yX9_takesNumber cX9_takesNumber 5 (some .boolean) 1 25 [.ref (zb Z + 0), .int p1, .int p2, .int p3] M post := by
  refine ctI (own := RX9) rfl (by decide) (Nat.le_of_ble_eq_true rfl) (fun X C E hr hQ => ?_)
  have s11 : ∀ (M : Mem) (x11_4 : Int32), B_MD_takesNumber_11 p1 p2 p3 post (fun (M : Mem) (x11_4 : Int32) => GS Z X 11 [(0, .ref (zb Z + 0)), (1, .int p1), (2, .int p2), (3, .int p3), (4, .int x11_4)] [] M) (fun (M : Mem) (x79_4 : Int32) => GS Z X 79 [(0, .ref (zb Z + 0)), (1, .int p1), (2, .int p2), (3, .int p3), (4, .int x79_4)] [] M) M x11_4 → GS Z X 11 [(0, .ref (zb Z + 0)), (1, .int p1), (2, .int p2), (3, .int p3), (4, .int x11_4)] [] M := by
    intro M x11_4 h
    unfold B_MD_takesNumber_11 at h
    refine g_aload_n (n := 12) (i := 0) C dX9_takesNumber_11 rfl 0 rfl rfl ?_
    refine gf_X9_99 (n := 15) C E (om_0 hZ) dX9_takesNumber_12 rfl ?_
    refine g_iload (n := 17) C dX9_takesNumber_15 4 rfl rfl ?_
    refine g_isub (n := 18) C dX9_takesNumber_17 rfl ?_
    refine g_iconst (n := 19) (2 : Int32) C dX9_takesNumber_18 (by decide) rfl ?_
    refine g_icmp_ge (n := 22) (tgt := 79) C dX9_takesNumber_19 (by decide) rfl (fun c => ?_) (fun c => ?_)
    · replace h := h.1 c
      exact g_sub [0, 1, 2, 3, 4] rfl h
    · replace h := h.2 c
      refine g_aload_n (n := 23) (i := 0) C dX9_takesNumber_22 rfl 0 rfl rfl ?_
      refine g_aload_n (n := 24) (i := 0) C dX9_takesNumber_23 rfl 0 rfl rfl ?_
      refine gf_X9_99 (n := 27) C E (om_0 hZ) dX9_takesNumber_24 rfl ?_
      refine g_callVi (n := 30) (kd := 9) C E (c_MD_letterAt hZ _ (M 0 13) M _ h) yi_X9_letterAt wd_933 rfl (om_0 hZ) (by decide) (Nat.le_of_ble_eq_true rfl) dX9_takesNumber_27 rfl rfl (fun r4 M3 h => ?_)
      refine g_i2l (n := 31) C dX9_takesNumber_30 rfl ?_
      refine g_ldc2 (n := 34) (48 : Int64) C wd_945 dX9_takesNumber_31 rfl ?_
      refine g_ldc2 (n := 37) (57 : Int64) C wd_946 dX9_takesNumber_34 rfl ?_
      refine g_callSi (n := 40) C E (c_MD_in hZ _ r4.toInt64 (48 : Int64) (57 : Int64) M3 _ h) ys_X9_in wd_914 (by decide) (Nat.le_of_ble_eq_true rfl) dX9_takesNumber_37 rfl rfl (fun r6 M5 h => ?_)
      refine g_if_eq (n := 43) (tgt := 79) C dX9_takesNumber_40 (by decide) rfl (fun c => ?_) (fun c => ?_)
      · replace h := h.1 c
        exact g_sub [0, 1, 2, 3, 4] rfl h
      · replace h := h.2 c
        refine g_aload_n (n := 44) (i := 0) C dX9_takesNumber_43 rfl 0 rfl rfl ?_
        refine g_bipush (n := 46) (10 : Int32) C dX9_takesNumber_44 (by decide) rfl ?_
        refine g_aload_n (n := 47) (i := 0) C dX9_takesNumber_46 rfl 0 rfl rfl ?_
        refine gf_X9_102 (n := 50) C E (om_0 hZ) dX9_takesNumber_47 rfl ?_
        refine g_imul (n := 51) C dX9_takesNumber_50 rfl ?_
        refine g_aload_n (n := 52) (i := 0) C dX9_takesNumber_51 rfl 0 rfl rfl ?_
        refine g_aload_n (n := 53) (i := 0) C dX9_takesNumber_52 rfl 0 rfl rfl ?_
        refine gf_X9_99 (n := 56) C E (om_0 hZ) dX9_takesNumber_53 rfl ?_
        refine g_callVi (n := 59) (kd := 9) C E (c_MD_letterAt hZ _ (M5 0 13) M5 _ h) yi_X9_letterAt wd_933 rfl (om_0 hZ) (by decide) (Nat.le_of_ble_eq_true rfl) dX9_takesNumber_56 rfl rfl (fun r8 M7 h => ?_)
        refine g_iadd (n := 60) C dX9_takesNumber_59 rfl ?_
        refine g_bipush (n := 62) (48 : Int32) C dX9_takesNumber_60 (by decide) rfl ?_
        refine g_isub (n := 63) C dX9_takesNumber_62 rfl ?_
        refine gp_X9_102 (n := 66) C E (om_0 hZ) dX9_takesNumber_63 rfl (fun M9 eM9 => ?_)
        replace h := h M9 eM9
        refine g_aload_n (n := 67) (i := 0) C dX9_takesNumber_66 rfl 0 rfl rfl ?_
        refine g_dup (n := 68) C dX9_takesNumber_67 rfl rfl ?_
        refine gf_X9_99 (n := 71) C E (om_0 hZ) dX9_takesNumber_68 rfl ?_
        refine g_iconst (n := 72) (1 : Int32) C dX9_takesNumber_71 (by decide) rfl ?_
        refine g_iadd (n := 73) C dX9_takesNumber_72 rfl ?_
        refine gp_X9_99 (n := 76) C E (om_0 hZ) dX9_takesNumber_73 rfl (fun M10 eM10 => ?_)
        replace h := h M10 eM10
        refine g_goto (tgt := 11) C dX9_takesNumber_76 (by decide) ?_
        exact g_sub [0, 1, 2, 3, 4] rfl h
  have s79 : ∀ (M : Mem) (x79_4 : Int32), B_MD_takesNumber_79 p1 p2 p3 post (fun (M : Mem) (x11_4 : Int32) => GS Z X 11 [(0, .ref (zb Z + 0)), (1, .int p1), (2, .int p2), (3, .int p3), (4, .int x11_4)] [] M) (fun (M : Mem) (x79_4 : Int32) => GS Z X 79 [(0, .ref (zb Z + 0)), (1, .int p1), (2, .int p2), (3, .int p3), (4, .int x79_4)] [] M) M x79_4 → GS Z X 79 [(0, .ref (zb Z + 0)), (1, .int p1), (2, .int p2), (3, .int p3), (4, .int x79_4)] [] M := by
    intro M x79_4 h
    unfold B_MD_takesNumber_79 at h
    refine g_aload_n (n := 80) (i := 0) C dX9_takesNumber_79 rfl 0 rfl rfl ?_
    refine gf_X9_99 (n := 83) C E (om_0 hZ) dX9_takesNumber_80 rfl ?_
    refine g_iload (n := 85) C dX9_takesNumber_83 4 rfl rfl ?_
    refine g_icmp_eq (n := 88) (tgt := 115) C dX9_takesNumber_85 (by decide) rfl (fun c => ?_) (fun c => ?_)
    · replace h := h.1 c
      refine g_iconst (n := 116) (0 : Int32) C dX9_takesNumber_115 (by decide) rfl ?_
      exact g_zret C hr hQ dX9_takesNumber_116 rfl h
    · replace h := h.2 c
      refine g_aload_n (n := 89) (i := 0) C dX9_takesNumber_88 rfl 0 rfl rfl ?_
      refine gf_X9_102 (n := 92) C E (om_0 hZ) dX9_takesNumber_89 rfl ?_
      refine g_i2l (n := 93) C dX9_takesNumber_92 rfl ?_
      refine g_iload_n (n := 94) (i := 1) C dX9_takesNumber_93 rfl 1 rfl rfl ?_
      refine g_i2l (n := 95) C dX9_takesNumber_94 rfl ?_
      refine g_iload_n (n := 96) (i := 2) C dX9_takesNumber_95 rfl 2 rfl rfl ?_
      refine g_i2l (n := 97) C dX9_takesNumber_96 rfl ?_
      refine g_callSi (n := 100) C E (c_MD_in hZ _ (M 0 14).toInt64 p1.toInt64 p2.toInt64 M _ h) ys_X9_in wd_914 (by decide) (Nat.le_of_ble_eq_true rfl) dX9_takesNumber_97 rfl rfl (fun r12 M11 h => ?_)
      refine g_if_eq (n := 103) (tgt := 115) C dX9_takesNumber_100 (by decide) rfl (fun c => ?_) (fun c => ?_)
      · replace h := h.1 c
        refine g_iconst (n := 116) (0 : Int32) C dX9_takesNumber_115 (by decide) rfl ?_
        exact g_zret C hr hQ dX9_takesNumber_116 rfl h
      · replace h := h.2 c
        refine g_aload_n (n := 104) (i := 0) C dX9_takesNumber_103 rfl 0 rfl rfl ?_
        refine g_aload_n (n := 105) (i := 0) C dX9_takesNumber_104 rfl 0 rfl rfl ?_
        refine gf_X9_99 (n := 108) C E (om_0 hZ) dX9_takesNumber_105 rfl ?_
        refine g_callVi (n := 111) (kd := 9) C E (c_MD_letterAt hZ _ (M11 0 13) M11 _ h) yi_X9_letterAt wd_933 rfl (om_0 hZ) (by decide) (Nat.le_of_ble_eq_true rfl) dX9_takesNumber_108 rfl rfl (fun r14 M13 h => ?_)
        refine g_iload_n (n := 112) (i := 3) C dX9_takesNumber_111 rfl 3 rfl rfl ?_
        refine g_icmp_eq (n := 115) (tgt := 117) C dX9_takesNumber_112 (by decide) rfl (fun c => ?_) (fun c => ?_)
        · replace h := h.1 c
          refine g_aload_n (n := 118) (i := 0) C dX9_takesNumber_117 rfl 0 rfl rfl ?_
          refine g_dup (n := 119) C dX9_takesNumber_118 rfl rfl ?_
          refine gf_X9_99 (n := 122) C E (om_0 hZ) dX9_takesNumber_119 rfl ?_
          refine g_iconst (n := 123) (1 : Int32) C dX9_takesNumber_122 (by decide) rfl ?_
          refine g_iadd (n := 124) C dX9_takesNumber_123 rfl ?_
          refine gp_X9_99 (n := 127) C E (om_0 hZ) dX9_takesNumber_124 rfl (fun M15 eM15 => ?_)
          replace h := h M15 eM15
          refine g_iconst (n := 128) (1 : Int32) C dX9_takesNumber_127 (by decide) rfl ?_
          exact g_zret C hr hQ dX9_takesNumber_128 rfl h
        · replace h := h.2 c
          refine g_iconst (n := 116) (0 : Int32) C dX9_takesNumber_115 (by decide) rfl ?_
          exact g_zret C hr hQ dX9_takesNumber_116 rfl h
  replace h := h (fun (M : Mem) (x11_4 : Int32) => GS Z X 11 [(0, .ref (zb Z + 0)), (1, .int p1), (2, .int p2), (3, .int p3), (4, .int x11_4)] [] M) (fun (M : Mem) (x79_4 : Int32) => GS Z X 79 [(0, .ref (zb Z + 0)), (1, .int p1), (2, .int p2), (3, .int p3), (4, .int x79_4)] [] M) s11 s79
  unfold B_MD_takesNumber_i at h
  show GS Z X 0 [(0, .ref (zb Z + 0)), (1, .int p1), (2, .int p2), (3, .int p3)] [] M
  refine g_aload_n (n := 1) (i := 0) C dX9_takesNumber_0 rfl 0 rfl rfl ?_
  refine gf_X9_99 (n := 4) C E (om_0 hZ) dX9_takesNumber_1 rfl ?_
  refine g_istore (n := 6) (i := 4) C dX9_takesNumber_4 (Nat.le_of_ble_eq_true rfl) rfl rfl (fun z1 ez1 => ?_)
  replace h := h z1 ez1
  refine g_aload_n (n := 7) (i := 0) C dX9_takesNumber_6 rfl 1 rfl rfl ?_
  refine g_iconst (n := 8) (0 : Int32) C dX9_takesNumber_7 (by decide) rfl ?_
  refine gp_X9_102 (n := 11) C E (om_0 hZ) dX9_takesNumber_8 rfl (fun M2 eM2 => ?_)
  replace h := h M2 eM2
  exact g_sub [1, 2, 3, 4, 0] rfl h
def B_MD_takesGuest_i  (post : Int32 → Mem → Prop) (R20 : Mem → Int32 → Int32 → Prop) (R35 : Mem → Int32 → Int32 → Prop) (R40 : Mem → Int32 → Int32 → Int32 → Prop) (R81 : Mem → Int32 → Int32 → Int32 → Int32 → Prop) (R99 : Mem → Int32 → Int32 → Int32 → Int32 → Int32 → Prop) (M : Mem)  : Prop :=
  (((¬ (M 0 15) = (7 : Int32)) → ∀ z1 : Int32, z1 = ((5 : Int32) * (M 0 15)) → ∀ z2 : Int32, z2 = (0 : Int32) → (R20 M z1 z2)) ∧ (((M 0 15) = (7 : Int32)) → post (0 : Int32) M))
def B_MD_takesGuest_20  (post : Int32 → Mem → Prop) (R20 : Mem → Int32 → Int32 → Prop) (R35 : Mem → Int32 → Int32 → Prop) (R40 : Mem → Int32 → Int32 → Int32 → Prop) (R81 : Mem → Int32 → Int32 → Int32 → Int32 → Prop) (R99 : Mem → Int32 → Int32 → Int32 → Int32 → Int32 → Prop) (M : Mem) (x20_1 : Int32) (x20_2 : Int32) : Prop :=
  ((((5 : Int32) ≤ x20_2) → ∀ M3 : Mem, M3 = mset M 0 15 ((M 0 15) + (1 : Int32)) → post (1 : Int32) M3) ∧ ((¬ (5 : Int32) ≤ x20_2) → (((x20_2 = (2 : Int32)) → (R35 M x20_1 x20_2)) ∧ ((¬ x20_2 = (2 : Int32)) → (((¬ x20_2 = (4 : Int32)) → (R40 M x20_1 x20_2 (0 : Int32))) ∧ ((x20_2 = (4 : Int32)) → (R35 M x20_1 x20_2)))))))
def B_MD_takesGuest_35  (post : Int32 → Mem → Prop) (R20 : Mem → Int32 → Int32 → Prop) (R35 : Mem → Int32 → Int32 → Prop) (R40 : Mem → Int32 → Int32 → Int32 → Prop) (R81 : Mem → Int32 → Int32 → Int32 → Int32 → Prop) (R99 : Mem → Int32 → Int32 → Int32 → Int32 → Int32 → Prop) (M : Mem) (x35_1 : Int32) (x35_2 : Int32) : Prop :=
  (R40 M x35_1 x35_2 (1 : Int32))
def B_MD_takesGuest_40  (post : Int32 → Mem → Prop) (R20 : Mem → Int32 → Int32 → Prop) (R35 : Mem → Int32 → Int32 → Prop) (R40 : Mem → Int32 → Int32 → Int32 → Prop) (R81 : Mem → Int32 → Int32 → Int32 → Int32 → Prop) (R99 : Mem → Int32 → Int32 → Int32 → Int32 → Int32 → Prop) (M : Mem) (x40_1 : Int32) (x40_2 : Int32) (s40_0 : Int32) : Prop :=
  ∀ z4 : Int32, z4 = s40_0 → (((¬ x40_2 = 0) → (((¬ x40_2 = (1 : Int32)) → (((¬ x40_2 = (2 : Int32)) → (((¬ x40_2 = (3 : Int32)) → (R81 M x40_1 x40_2 z4 (9 : Int32))) ∧ ((x40_2 = (3 : Int32)) → (R81 M x40_1 x40_2 z4 (20 : Int32))))) ∧ ((x40_2 = (2 : Int32)) → (R81 M x40_1 x40_2 z4 (30 : Int32))))) ∧ ((x40_2 = (1 : Int32)) → (R81 M x40_1 x40_2 z4 (40 : Int32))))) ∧ ((x40_2 = 0) → (R81 M x40_1 x40_2 z4 (3 : Int32))))
def B_MD_takesGuest_81  (post : Int32 → Mem → Prop) (R20 : Mem → Int32 → Int32 → Prop) (R35 : Mem → Int32 → Int32 → Prop) (R40 : Mem → Int32 → Int32 → Int32 → Prop) (R81 : Mem → Int32 → Int32 → Int32 → Int32 → Prop) (R99 : Mem → Int32 → Int32 → Int32 → Int32 → Int32 → Prop) (M : Mem) (x81_1 : Int32) (x81_2 : Int32) (x81_3 : Int32) (s81_0 : Int32) : Prop :=
  ∀ z5 : Int32, z5 = s81_0 → (((¬ x81_2 = (4 : Int32)) → (R99 M x81_1 x81_2 (44 : Int32) z5 x81_3)) ∧ ((x81_2 = (4 : Int32)) → (R99 M x81_1 x81_2 (59 : Int32) z5 x81_3)))
def B_MD_takesGuest_99  (post : Int32 → Mem → Prop) (R20 : Mem → Int32 → Int32 → Prop) (R35 : Mem → Int32 → Int32 → Prop) (R40 : Mem → Int32 → Int32 → Int32 → Prop) (R81 : Mem → Int32 → Int32 → Int32 → Int32 → Prop) (R99 : Mem → Int32 → Int32 → Int32 → Int32 → Int32 → Prop) (M : Mem) (x99_1 : Int32) (x99_2 : Int32) (s99_0 : Int32) (s99_1 : Int32) (s99_2 : Int32) : Prop :=
  P_MD_takesNumber M s99_2 s99_1 s99_0 (fun (r7 : Int32) (M6 : Mem) => (((¬ r7 = 0) → vp_in (x99_1 + x99_2) 35 ∧ (∀ M8 : Mem, M8 = mset M6 9 ((x99_1 + x99_2)).toNatClampNeg (M6 0 14) → ∀ z9 : Int32, z9 = x99_2 + (1 : Int32) → (R20 M8 x99_1 z9))) ∧ ((r7 = 0) → post (0 : Int32) M6)))
def P_MD_takesGuest (M : Mem)  (post : Int32 → Mem → Prop) : Prop :=
  ∀ (R20 : Mem → Int32 → Int32 → Prop) (R35 : Mem → Int32 → Int32 → Prop) (R40 : Mem → Int32 → Int32 → Int32 → Prop) (R81 : Mem → Int32 → Int32 → Int32 → Int32 → Prop) (R99 : Mem → Int32 → Int32 → Int32 → Int32 → Int32 → Prop), (∀ (M : Mem) (x20_1 : Int32) (x20_2 : Int32), B_MD_takesGuest_20  post R20 R35 R40 R81 R99 M x20_1 x20_2 → R20 M x20_1 x20_2) → (∀ (M : Mem) (x35_1 : Int32) (x35_2 : Int32), B_MD_takesGuest_35  post R20 R35 R40 R81 R99 M x35_1 x35_2 → R35 M x35_1 x35_2) → (∀ (M : Mem) (x40_1 : Int32) (x40_2 : Int32) (s40_0 : Int32), B_MD_takesGuest_40  post R20 R35 R40 R81 R99 M x40_1 x40_2 s40_0 → R40 M x40_1 x40_2 s40_0) → (∀ (M : Mem) (x81_1 : Int32) (x81_2 : Int32) (x81_3 : Int32) (s81_0 : Int32), B_MD_takesGuest_81  post R20 R35 R40 R81 R99 M x81_1 x81_2 x81_3 s81_0 → R81 M x81_1 x81_2 x81_3 s81_0) → (∀ (M : Mem) (x99_1 : Int32) (x99_2 : Int32) (s99_0 : Int32) (s99_1 : Int32) (s99_2 : Int32), B_MD_takesGuest_99  post R20 R35 R40 R81 R99 M x99_1 x99_2 s99_0 s99_1 s99_2 → R99 M x99_1 x99_2 s99_0 s99_1 s99_2) → B_MD_takesGuest_i  post R20 R35 R40 R81 R99 M
set_option maxHeartbeats 4000000 in
set_option maxRecDepth 100000 in
theorem c_MD_takesGuest {Z : ZT} (hZ : IsM Z) (l : Launch)  (M : Mem) (post : Int32 → Mem → Prop) (h : P_MD_takesGuest M  post) : CtI Z l yX9_takesGuest cX9_takesGuest 5 (some .boolean) 2 49 [.ref (zb Z + 0)] M post := by
  refine ctI (own := RX9) rfl (by decide) (Nat.le_of_ble_eq_true rfl) (fun X C E hr hQ => ?_)
  have s20 : ∀ (M : Mem) (x20_1 : Int32) (x20_2 : Int32), B_MD_takesGuest_20  post (fun (M : Mem) (x20_1 : Int32) (x20_2 : Int32) => GS Z X 20 [(0, .ref (zb Z + 0)), (1, .int x20_1), (2, .int x20_2)] [] M) (fun (M : Mem) (x35_1 : Int32) (x35_2 : Int32) => GS Z X 35 [(0, .ref (zb Z + 0)), (1, .int x35_1), (2, .int x35_2)] [] M) (fun (M : Mem) (x40_1 : Int32) (x40_2 : Int32) (s40_0 : Int32) => GS Z X 40 [(0, .ref (zb Z + 0)), (1, .int x40_1), (2, .int x40_2)] [.int s40_0] M) (fun (M : Mem) (x81_1 : Int32) (x81_2 : Int32) (x81_3 : Int32) (s81_0 : Int32) => GS Z X 81 [(0, .ref (zb Z + 0)), (1, .int x81_1), (2, .int x81_2), (3, .int x81_3)] [.int s81_0] M) (fun (M : Mem) (x99_1 : Int32) (x99_2 : Int32) (s99_0 : Int32) (s99_1 : Int32) (s99_2 : Int32) => GS Z X 99 [(0, .ref (zb Z + 0)), (1, .int x99_1), (2, .int x99_2)] [.int s99_0, .int s99_1, .int s99_2, .ref (zb Z + 0)] M) M x20_1 x20_2 → GS Z X 20 [(0, .ref (zb Z + 0)), (1, .int x20_1), (2, .int x20_2)] [] M := by
    intro M x20_1 x20_2 h
    unfold B_MD_takesGuest_20 at h
    refine g_iload_n (n := 21) (i := 2) C dX9_takesGuest_20 rfl 2 rfl rfl ?_
    refine g_iconst (n := 22) (5 : Int32) C dX9_takesGuest_21 (by decide) rfl ?_
    refine g_icmp_ge (n := 25) (tgt := 125) C dX9_takesGuest_22 (by decide) rfl (fun c => ?_) (fun c => ?_)
    · replace h := h.1 c
      refine g_aload_n (n := 126) (i := 0) C dX9_takesGuest_125 rfl 0 rfl rfl ?_
      refine g_dup (n := 127) C dX9_takesGuest_126 rfl rfl ?_
      refine gf_X9_77 (n := 130) C E (om_0 hZ) dX9_takesGuest_127 rfl ?_
      refine g_iconst (n := 131) (1 : Int32) C dX9_takesGuest_130 (by decide) rfl ?_
      refine g_iadd (n := 132) C dX9_takesGuest_131 rfl ?_
      refine gp_X9_77 (n := 135) C E (om_0 hZ) dX9_takesGuest_132 rfl (fun M3 eM3 => ?_)
      replace h := h M3 eM3
      refine g_iconst (n := 136) (1 : Int32) C dX9_takesGuest_135 (by decide) rfl ?_
      exact g_zret C hr hQ dX9_takesGuest_136 rfl h
    · replace h := h.2 c
      refine g_iload_n (n := 26) (i := 2) C dX9_takesGuest_25 rfl 2 rfl rfl ?_
      refine g_iconst (n := 27) (2 : Int32) C dX9_takesGuest_26 (by decide) rfl ?_
      refine g_icmp_eq (n := 30) (tgt := 35) C dX9_takesGuest_27 (by decide) rfl (fun c => ?_) (fun c => ?_)
      · replace h := h.1 c
        exact g_sub [0, 1, 2] rfl h
      · replace h := h.2 c
        refine g_iload_n (n := 31) (i := 2) C dX9_takesGuest_30 rfl 2 rfl rfl ?_
        refine g_iconst (n := 32) (4 : Int32) C dX9_takesGuest_31 (by decide) rfl ?_
        refine g_icmp_ne (n := 35) (tgt := 39) C dX9_takesGuest_32 (by decide) rfl (fun c => ?_) (fun c => ?_)
        · replace h := h.1 c
          refine g_iconst (n := 40) (0 : Int32) C dX9_takesGuest_39 (by decide) rfl ?_
          exact g_sub [0, 1, 2] rfl h
        · replace h := h.2 c
          exact g_sub [0, 1, 2] rfl h
  have s35 : ∀ (M : Mem) (x35_1 : Int32) (x35_2 : Int32), B_MD_takesGuest_35  post (fun (M : Mem) (x20_1 : Int32) (x20_2 : Int32) => GS Z X 20 [(0, .ref (zb Z + 0)), (1, .int x20_1), (2, .int x20_2)] [] M) (fun (M : Mem) (x35_1 : Int32) (x35_2 : Int32) => GS Z X 35 [(0, .ref (zb Z + 0)), (1, .int x35_1), (2, .int x35_2)] [] M) (fun (M : Mem) (x40_1 : Int32) (x40_2 : Int32) (s40_0 : Int32) => GS Z X 40 [(0, .ref (zb Z + 0)), (1, .int x40_1), (2, .int x40_2)] [.int s40_0] M) (fun (M : Mem) (x81_1 : Int32) (x81_2 : Int32) (x81_3 : Int32) (s81_0 : Int32) => GS Z X 81 [(0, .ref (zb Z + 0)), (1, .int x81_1), (2, .int x81_2), (3, .int x81_3)] [.int s81_0] M) (fun (M : Mem) (x99_1 : Int32) (x99_2 : Int32) (s99_0 : Int32) (s99_1 : Int32) (s99_2 : Int32) => GS Z X 99 [(0, .ref (zb Z + 0)), (1, .int x99_1), (2, .int x99_2)] [.int s99_0, .int s99_1, .int s99_2, .ref (zb Z + 0)] M) M x35_1 x35_2 → GS Z X 35 [(0, .ref (zb Z + 0)), (1, .int x35_1), (2, .int x35_2)] [] M := by
    intro M x35_1 x35_2 h
    unfold B_MD_takesGuest_35 at h
    refine g_iconst (n := 36) (1 : Int32) C dX9_takesGuest_35 (by decide) rfl ?_
    refine g_goto (tgt := 40) C dX9_takesGuest_36 (by decide) ?_
    exact g_sub [0, 1, 2] rfl h
  have s40 : ∀ (M : Mem) (x40_1 : Int32) (x40_2 : Int32) (s40_0 : Int32), B_MD_takesGuest_40  post (fun (M : Mem) (x20_1 : Int32) (x20_2 : Int32) => GS Z X 20 [(0, .ref (zb Z + 0)), (1, .int x20_1), (2, .int x20_2)] [] M) (fun (M : Mem) (x35_1 : Int32) (x35_2 : Int32) => GS Z X 35 [(0, .ref (zb Z + 0)), (1, .int x35_1), (2, .int x35_2)] [] M) (fun (M : Mem) (x40_1 : Int32) (x40_2 : Int32) (s40_0 : Int32) => GS Z X 40 [(0, .ref (zb Z + 0)), (1, .int x40_1), (2, .int x40_2)] [.int s40_0] M) (fun (M : Mem) (x81_1 : Int32) (x81_2 : Int32) (x81_3 : Int32) (s81_0 : Int32) => GS Z X 81 [(0, .ref (zb Z + 0)), (1, .int x81_1), (2, .int x81_2), (3, .int x81_3)] [.int s81_0] M) (fun (M : Mem) (x99_1 : Int32) (x99_2 : Int32) (s99_0 : Int32) (s99_1 : Int32) (s99_2 : Int32) => GS Z X 99 [(0, .ref (zb Z + 0)), (1, .int x99_1), (2, .int x99_2)] [.int s99_0, .int s99_1, .int s99_2, .ref (zb Z + 0)] M) M x40_1 x40_2 s40_0 → GS Z X 40 [(0, .ref (zb Z + 0)), (1, .int x40_1), (2, .int x40_2)] [.int s40_0] M := by
    intro M x40_1 x40_2 s40_0 h
    unfold B_MD_takesGuest_40 at h
    refine g_istore_n (n := 41) (i := 3) C dX9_takesGuest_40 rfl (Nat.le_of_ble_eq_true rfl) rfl rfl (fun z4 ez4 => ?_)
    replace h := h z4 ez4
    refine g_iload_n (n := 42) (i := 2) C dX9_takesGuest_41 rfl 3 rfl rfl ?_
    refine g_if_ne (n := 45) (tgt := 49) C dX9_takesGuest_42 (by decide) rfl (fun c => ?_) (fun c => ?_)
    · replace h := h.1 c
      refine g_iload_n (n := 50) (i := 2) C dX9_takesGuest_49 rfl 3 rfl rfl ?_
      refine g_iconst (n := 51) (1 : Int32) C dX9_takesGuest_50 (by decide) rfl ?_
      refine g_icmp_ne (n := 54) (tgt := 59) C dX9_takesGuest_51 (by decide) rfl (fun c => ?_) (fun c => ?_)
      · replace h := h.1 c
        refine g_iload_n (n := 60) (i := 2) C dX9_takesGuest_59 rfl 3 rfl rfl ?_
        refine g_iconst (n := 61) (2 : Int32) C dX9_takesGuest_60 (by decide) rfl ?_
        refine g_icmp_ne (n := 64) (tgt := 69) C dX9_takesGuest_61 (by decide) rfl (fun c => ?_) (fun c => ?_)
        · replace h := h.1 c
          refine g_iload_n (n := 70) (i := 2) C dX9_takesGuest_69 rfl 3 rfl rfl ?_
          refine g_iconst (n := 71) (3 : Int32) C dX9_takesGuest_70 (by decide) rfl ?_
          refine g_icmp_ne (n := 74) (tgt := 79) C dX9_takesGuest_71 (by decide) rfl (fun c => ?_) (fun c => ?_)
          · replace h := h.1 c
            refine g_bipush (n := 81) (9 : Int32) C dX9_takesGuest_79 (by decide) rfl ?_
            exact g_sub [1, 2, 3, 0] rfl h
          · replace h := h.2 c
            refine g_bipush (n := 76) (20 : Int32) C dX9_takesGuest_74 (by decide) rfl ?_
            refine g_goto (tgt := 81) C dX9_takesGuest_76 (by decide) ?_
            exact g_sub [1, 2, 3, 0] rfl h
        · replace h := h.2 c
          refine g_bipush (n := 66) (30 : Int32) C dX9_takesGuest_64 (by decide) rfl ?_
          refine g_goto (tgt := 81) C dX9_takesGuest_66 (by decide) ?_
          exact g_sub [1, 2, 3, 0] rfl h
      · replace h := h.2 c
        refine g_bipush (n := 56) (40 : Int32) C dX9_takesGuest_54 (by decide) rfl ?_
        refine g_goto (tgt := 81) C dX9_takesGuest_56 (by decide) ?_
        exact g_sub [1, 2, 3, 0] rfl h
    · replace h := h.2 c
      refine g_iconst (n := 46) (3 : Int32) C dX9_takesGuest_45 (by decide) rfl ?_
      refine g_goto (tgt := 81) C dX9_takesGuest_46 (by decide) ?_
      exact g_sub [1, 2, 3, 0] rfl h
  have s81 : ∀ (M : Mem) (x81_1 : Int32) (x81_2 : Int32) (x81_3 : Int32) (s81_0 : Int32), B_MD_takesGuest_81  post (fun (M : Mem) (x20_1 : Int32) (x20_2 : Int32) => GS Z X 20 [(0, .ref (zb Z + 0)), (1, .int x20_1), (2, .int x20_2)] [] M) (fun (M : Mem) (x35_1 : Int32) (x35_2 : Int32) => GS Z X 35 [(0, .ref (zb Z + 0)), (1, .int x35_1), (2, .int x35_2)] [] M) (fun (M : Mem) (x40_1 : Int32) (x40_2 : Int32) (s40_0 : Int32) => GS Z X 40 [(0, .ref (zb Z + 0)), (1, .int x40_1), (2, .int x40_2)] [.int s40_0] M) (fun (M : Mem) (x81_1 : Int32) (x81_2 : Int32) (x81_3 : Int32) (s81_0 : Int32) => GS Z X 81 [(0, .ref (zb Z + 0)), (1, .int x81_1), (2, .int x81_2), (3, .int x81_3)] [.int s81_0] M) (fun (M : Mem) (x99_1 : Int32) (x99_2 : Int32) (s99_0 : Int32) (s99_1 : Int32) (s99_2 : Int32) => GS Z X 99 [(0, .ref (zb Z + 0)), (1, .int x99_1), (2, .int x99_2)] [.int s99_0, .int s99_1, .int s99_2, .ref (zb Z + 0)] M) M x81_1 x81_2 x81_3 s81_0 → GS Z X 81 [(0, .ref (zb Z + 0)), (1, .int x81_1), (2, .int x81_2), (3, .int x81_3)] [.int s81_0] M := by
    intro M x81_1 x81_2 x81_3 s81_0 h
    unfold B_MD_takesGuest_81 at h
    refine g_istore (n := 83) (i := 4) C dX9_takesGuest_81 (Nat.le_of_ble_eq_true rfl) rfl rfl (fun z5 ez5 => ?_)
    replace h := h z5 ez5
    refine g_aload_n (n := 84) (i := 0) C dX9_takesGuest_83 rfl 1 rfl rfl ?_
    refine g_iload_n (n := 85) (i := 3) C dX9_takesGuest_84 rfl 4 rfl rfl ?_
    refine g_iload (n := 87) C dX9_takesGuest_85 0 rfl rfl ?_
    refine g_iload_n (n := 88) (i := 2) C dX9_takesGuest_87 rfl 3 rfl rfl ?_
    refine g_iconst (n := 89) (4 : Int32) C dX9_takesGuest_88 (by decide) rfl ?_
    refine g_icmp_ne (n := 92) (tgt := 97) C dX9_takesGuest_89 (by decide) rfl (fun c => ?_) (fun c => ?_)
    · replace h := h.1 c
      refine g_bipush (n := 99) (44 : Int32) C dX9_takesGuest_97 (by decide) rfl ?_
      exact g_sub [1, 2, 3] rfl h
    · replace h := h.2 c
      refine g_bipush (n := 94) (59 : Int32) C dX9_takesGuest_92 (by decide) rfl ?_
      refine g_goto (tgt := 99) C dX9_takesGuest_94 (by decide) ?_
      exact g_sub [1, 2, 3] rfl h
  have s99 : ∀ (M : Mem) (x99_1 : Int32) (x99_2 : Int32) (s99_0 : Int32) (s99_1 : Int32) (s99_2 : Int32), B_MD_takesGuest_99  post (fun (M : Mem) (x20_1 : Int32) (x20_2 : Int32) => GS Z X 20 [(0, .ref (zb Z + 0)), (1, .int x20_1), (2, .int x20_2)] [] M) (fun (M : Mem) (x35_1 : Int32) (x35_2 : Int32) => GS Z X 35 [(0, .ref (zb Z + 0)), (1, .int x35_1), (2, .int x35_2)] [] M) (fun (M : Mem) (x40_1 : Int32) (x40_2 : Int32) (s40_0 : Int32) => GS Z X 40 [(0, .ref (zb Z + 0)), (1, .int x40_1), (2, .int x40_2)] [.int s40_0] M) (fun (M : Mem) (x81_1 : Int32) (x81_2 : Int32) (x81_3 : Int32) (s81_0 : Int32) => GS Z X 81 [(0, .ref (zb Z + 0)), (1, .int x81_1), (2, .int x81_2), (3, .int x81_3)] [.int s81_0] M) (fun (M : Mem) (x99_1 : Int32) (x99_2 : Int32) (s99_0 : Int32) (s99_1 : Int32) (s99_2 : Int32) => GS Z X 99 [(0, .ref (zb Z + 0)), (1, .int x99_1), (2, .int x99_2)] [.int s99_0, .int s99_1, .int s99_2, .ref (zb Z + 0)] M) M x99_1 x99_2 s99_0 s99_1 s99_2 → GS Z X 99 [(0, .ref (zb Z + 0)), (1, .int x99_1), (2, .int x99_2)] [.int s99_0, .int s99_1, .int s99_2, .ref (zb Z + 0)] M := by
    intro M x99_1 x99_2 s99_0 s99_1 s99_2 h
    unfold B_MD_takesGuest_99 at h
    refine g_callVi (n := 102) (kd := 9) C E (c_MD_takesNumber hZ _ s99_2 s99_1 s99_0 M _ h) yi_X9_takesNumber wd_941 rfl (om_0 hZ) (by decide) (Nat.le_of_ble_eq_true rfl) dX9_takesGuest_99 rfl rfl (fun r7 M6 h => ?_)
    refine g_if_ne (n := 105) (tgt := 107) C dX9_takesGuest_102 (by decide) rfl (fun c => ?_) (fun c => ?_)
    · replace h := h.1 c
      refine g_aload_n (n := 108) (i := 0) C dX9_takesGuest_107 rfl 0 rfl rfl ?_
      refine gf_X9_34 (n := 111) 9 C E (om_0 hZ) rfl dX9_takesGuest_108 rfl ?_
      refine g_iload_n (n := 112) (i := 1) C dX9_takesGuest_111 rfl 1 rfl rfl ?_
      refine g_iload_n (n := 113) (i := 2) C dX9_takesGuest_112 rfl 2 rfl rfl ?_
      refine g_iadd (n := 114) C dX9_takesGuest_113 rfl ?_
      refine g_aload_n (n := 115) (i := 0) C dX9_takesGuest_114 rfl 0 rfl rfl ?_
      refine gf_X9_102 (n := 118) C E (om_0 hZ) dX9_takesGuest_115 rfl ?_
      refine g_iast (n := 119) C E (om_9 hZ) h.1 dX9_takesGuest_118 rfl (fun M8 eM8 => ?_)
      replace h := h.2 M8 eM8
      refine g_iinc (n := 122) (v := (1 : Int32)) C dX9_takesGuest_119 2 rfl (by decide) (Nat.le_of_ble_eq_true rfl) rfl rfl (fun z9 ez9 => ?_)
      replace h := h z9 ez9
      refine g_goto (tgt := 20) C dX9_takesGuest_122 (by decide) ?_
      exact g_sub [1, 2, 0] rfl h
    · replace h := h.2 c
      refine g_iconst (n := 106) (0 : Int32) C dX9_takesGuest_105 (by decide) rfl ?_
      exact g_zret C hr hQ dX9_takesGuest_106 rfl h
  replace h := h (fun (M : Mem) (x20_1 : Int32) (x20_2 : Int32) => GS Z X 20 [(0, .ref (zb Z + 0)), (1, .int x20_1), (2, .int x20_2)] [] M) (fun (M : Mem) (x35_1 : Int32) (x35_2 : Int32) => GS Z X 35 [(0, .ref (zb Z + 0)), (1, .int x35_1), (2, .int x35_2)] [] M) (fun (M : Mem) (x40_1 : Int32) (x40_2 : Int32) (s40_0 : Int32) => GS Z X 40 [(0, .ref (zb Z + 0)), (1, .int x40_1), (2, .int x40_2)] [.int s40_0] M) (fun (M : Mem) (x81_1 : Int32) (x81_2 : Int32) (x81_3 : Int32) (s81_0 : Int32) => GS Z X 81 [(0, .ref (zb Z + 0)), (1, .int x81_1), (2, .int x81_2), (3, .int x81_3)] [.int s81_0] M) (fun (M : Mem) (x99_1 : Int32) (x99_2 : Int32) (s99_0 : Int32) (s99_1 : Int32) (s99_2 : Int32) => GS Z X 99 [(0, .ref (zb Z + 0)), (1, .int x99_1), (2, .int x99_2)] [.int s99_0, .int s99_1, .int s99_2, .ref (zb Z + 0)] M) s20 s35 s40 s81 s99
  unfold B_MD_takesGuest_i at h
  show GS Z X 0 [(0, .ref (zb Z + 0))] [] M
  refine g_aload_n (n := 1) (i := 0) C dX9_takesGuest_0 rfl 0 rfl rfl ?_
  refine gf_X9_77 (n := 4) C E (om_0 hZ) dX9_takesGuest_1 rfl ?_
  refine g_bipush (n := 6) (7 : Int32) C dX9_takesGuest_4 (by decide) rfl ?_
  refine g_icmp_ne (n := 9) (tgt := 11) C dX9_takesGuest_6 (by decide) rfl (fun c => ?_) (fun c => ?_)
  · replace h := h.1 c
    refine g_iconst (n := 12) (5 : Int32) C dX9_takesGuest_11 (by decide) rfl ?_
    refine g_aload_n (n := 13) (i := 0) C dX9_takesGuest_12 rfl 0 rfl rfl ?_
    refine gf_X9_77 (n := 16) C E (om_0 hZ) dX9_takesGuest_13 rfl ?_
    refine g_imul (n := 17) C dX9_takesGuest_16 rfl ?_
    refine g_istore_n (n := 18) (i := 1) C dX9_takesGuest_17 rfl (Nat.le_of_ble_eq_true rfl) rfl rfl (fun z1 ez1 => ?_)
    replace h := h z1 ez1
    refine g_iconst (n := 19) (0 : Int32) C dX9_takesGuest_18 (by decide) rfl ?_
    refine g_istore_n (n := 20) (i := 2) C dX9_takesGuest_19 rfl (Nat.le_of_ble_eq_true rfl) rfl rfl (fun z2 ez2 => ?_)
    replace h := h z2 ez2
    exact g_sub [2, 1, 0] rfl h
  · replace h := h.2 c
    refine g_iconst (n := 10) (0 : Int32) C dX9_takesGuest_9 (by decide) rfl ?_
    exact g_zret C hr hQ dX9_takesGuest_10 rfl h
def B_MD_takesRoom_i  (post : Int32 → Mem → Prop)  (M : Mem)  : Prop :=
  ((((M 0 17) = (7 : Int32)) → post (0 : Int32) M) ∧ ((¬ (M 0 17) = (7 : Int32)) → P_MD_takesNumber M (0 : Int32) (9 : Int32) (59 : Int32) (fun (r2 : Int32) (M1 : Mem) => (((¬ r2 = 0) → P_MD_addsRoom M1 (M1 0 14) (fun (M3 : Mem) => post (1 : Int32) M3)) ∧ ((r2 = 0) → post (0 : Int32) M1)))))
def P_MD_takesRoom (M : Mem)  (post : Int32 → Mem → Prop) : Prop := B_MD_takesRoom_i  post M
set_option maxHeartbeats 4000000 in
set_option maxRecDepth 100000 in
theorem c_MD_takesRoom {Z : ZT} (hZ : IsM Z) (l : Launch)  (M : Mem) (post : Int32 → Mem → Prop) (h : P_MD_takesRoom M  post) : CtI Z l yX9_takesRoom cX9_takesRoom 1 (some .boolean) 2 49 [.ref (zb Z + 0)] M post := by
  refine ctI (own := RX9) rfl (by decide) (Nat.le_of_ble_eq_true rfl) (fun X C E hr hQ => ?_)
  unfold P_MD_takesRoom at h
  unfold B_MD_takesRoom_i at h
  show GS Z X 0 [(0, .ref (zb Z + 0))] [] M
  refine g_aload_n (n := 1) (i := 0) C dX9_takesRoom_0 rfl 0 rfl rfl ?_
  refine gf_X9_80 (n := 4) C E (om_0 hZ) dX9_takesRoom_1 rfl ?_
  refine g_bipush (n := 6) (7 : Int32) C dX9_takesRoom_4 (by decide) rfl ?_
  refine g_icmp_eq (n := 9) (tgt := 21) C dX9_takesRoom_6 (by decide) rfl (fun c => ?_) (fun c => ?_)
  · replace h := h.1 c
    refine g_iconst (n := 22) (0 : Int32) C dX9_takesRoom_21 (by decide) rfl ?_
    exact g_zret C hr hQ dX9_takesRoom_22 rfl h
  · replace h := h.2 c
    refine g_aload_n (n := 10) (i := 0) C dX9_takesRoom_9 rfl 0 rfl rfl ?_
    refine g_iconst (n := 11) (0 : Int32) C dX9_takesRoom_10 (by decide) rfl ?_
    refine g_bipush (n := 13) (9 : Int32) C dX9_takesRoom_11 (by decide) rfl ?_
    refine g_bipush (n := 15) (59 : Int32) C dX9_takesRoom_13 (by decide) rfl ?_
    refine g_callVi (n := 18) (kd := 9) C E (c_MD_takesNumber hZ _ (0 : Int32) (9 : Int32) (59 : Int32) M _ h) yi_X9_takesNumber wd_941 rfl (om_0 hZ) (by decide) (Nat.le_of_ble_eq_true rfl) dX9_takesRoom_15 rfl rfl (fun r2 M1 h => ?_)
    refine g_if_ne (n := 21) (tgt := 23) C dX9_takesRoom_18 (by decide) rfl (fun c => ?_) (fun c => ?_)
    · replace h := h.1 c
      refine g_aload_n (n := 24) (i := 0) C dX9_takesRoom_23 rfl 0 rfl rfl ?_
      refine g_aload_n (n := 25) (i := 0) C dX9_takesRoom_24 rfl 0 rfl rfl ?_
      refine gf_X9_102 (n := 28) C E (om_0 hZ) dX9_takesRoom_25 rfl ?_
      refine g_callVv (n := 31) (kd := 9) C E (c_MD_addsRoom hZ _ (M1 0 14) M1 _ h) yi_X9_addsRoom wd_827 rfl (om_0 hZ) (by decide) (Nat.le_of_ble_eq_true rfl) dX9_takesRoom_28 rfl rfl (fun M3 h => ?_)
      refine g_iconst (n := 32) (1 : Int32) C dX9_takesRoom_31 (by decide) rfl ?_
      exact g_zret C hr hQ dX9_takesRoom_32 rfl h
    · replace h := h.2 c
      refine g_iconst (n := 22) (0 : Int32) C dX9_takesRoom_21 (by decide) rfl ?_
      exact g_zret C hr hQ dX9_takesRoom_22 rfl h
def B_MD_takesItem_i  (post : Int32 → Mem → Prop)  (M : Mem)  : Prop :=
  P_MD_letterAt M (M 0 13) (fun (r2 : Int32) (M1 : Mem) => ∀ z3 : Int32, z3 = r2 → ∀ M4 : Mem, M4 = mset M1 0 13 ((M1 0 13) + (1 : Int32)) → (((¬ z3 = (103 : Int32)) → (((¬ z3 = (114 : Int32)) → post (0 : Int32) M4) ∧ ((z3 = (114 : Int32)) → P_MD_takesRoom M4 (fun (r6 : Int32) (M5 : Mem) => (((r6 = 0) → post (0 : Int32) M5) ∧ ((¬ r6 = 0) → post (1 : Int32) M5)))))) ∧ ((z3 = (103 : Int32)) → P_MD_takesGuest M4 (fun (r8 : Int32) (M7 : Mem) => (narrow .boolean (.int r8) = .int r8 ∧ post r8 M7)))))
def P_MD_takesItem (M : Mem)  (post : Int32 → Mem → Prop) : Prop := B_MD_takesItem_i  post M
set_option maxHeartbeats 4000000 in
set_option maxRecDepth 100000 in
theorem c_MD_takesItem {Z : ZT} (hZ : IsM Z) (l : Launch)  (M : Mem) (post : Int32 → Mem → Prop) (h : P_MD_takesItem M  post) : CtI Z l yX9_takesItem cX9_takesItem 2 (some .boolean) 3 73 [.ref (zb Z + 0)] M post := by
  refine ctI (own := RX9) rfl (by decide) (Nat.le_of_ble_eq_true rfl) (fun X C E hr hQ => ?_)
  unfold P_MD_takesItem at h
  unfold B_MD_takesItem_i at h
  show GS Z X 0 [(0, .ref (zb Z + 0))] [] M
  refine g_aload_n (n := 1) (i := 0) C dX9_takesItem_0 rfl 0 rfl rfl ?_
  refine g_aload_n (n := 2) (i := 0) C dX9_takesItem_1 rfl 0 rfl rfl ?_
  refine gf_X9_99 (n := 5) C E (om_0 hZ) dX9_takesItem_2 rfl ?_
  refine g_callVi (n := 8) (kd := 9) C E (c_MD_letterAt hZ _ (M 0 13) M _ h) yi_X9_letterAt wd_933 rfl (om_0 hZ) (by decide) (Nat.le_of_ble_eq_true rfl) dX9_takesItem_5 rfl rfl (fun r2 M1 h => ?_)
  refine g_istore_n (n := 9) (i := 1) C dX9_takesItem_8 rfl (Nat.le_of_ble_eq_true rfl) rfl rfl (fun z3 ez3 => ?_)
  replace h := h z3 ez3
  refine g_aload_n (n := 10) (i := 0) C dX9_takesItem_9 rfl 1 rfl rfl ?_
  refine g_dup (n := 11) C dX9_takesItem_10 rfl rfl ?_
  refine gf_X9_99 (n := 14) C E (om_0 hZ) dX9_takesItem_11 rfl ?_
  refine g_iconst (n := 15) (1 : Int32) C dX9_takesItem_14 (by decide) rfl ?_
  refine g_iadd (n := 16) C dX9_takesItem_15 rfl ?_
  refine gp_X9_99 (n := 19) C E (om_0 hZ) dX9_takesItem_16 rfl (fun M4 eM4 => ?_)
  replace h := h M4 eM4
  refine g_iload_n (n := 20) (i := 1) C dX9_takesItem_19 rfl 0 rfl rfl ?_
  refine g_bipush (n := 22) (103 : Int32) C dX9_takesItem_20 (by decide) rfl ?_
  refine g_icmp_ne (n := 25) (tgt := 32) C dX9_takesItem_22 (by decide) rfl (fun c => ?_) (fun c => ?_)
  · replace h := h.1 c
    refine g_iload_n (n := 33) (i := 1) C dX9_takesItem_32 rfl 0 rfl rfl ?_
    refine g_bipush (n := 35) (114 : Int32) C dX9_takesItem_33 (by decide) rfl ?_
    refine g_icmp_ne (n := 38) (tgt := 49) C dX9_takesItem_35 (by decide) rfl (fun c => ?_) (fun c => ?_)
    · replace h := h.1 c
      refine g_iconst (n := 50) (0 : Int32) C dX9_takesItem_49 (by decide) rfl ?_
      exact g_zret C hr hQ dX9_takesItem_50 rfl h
    · replace h := h.2 c
      refine g_aload_n (n := 39) (i := 0) C dX9_takesItem_38 rfl 1 rfl rfl ?_
      refine g_callVi (n := 42) (kd := 9) C E (c_MD_takesRoom hZ _  M4 _ h) yi_X9_takesRoom wd_947 rfl (om_0 hZ) (by decide) (Nat.le_of_ble_eq_true rfl) dX9_takesItem_39 rfl rfl (fun r6 M5 h => ?_)
      refine g_if_eq (n := 45) (tgt := 49) C dX9_takesItem_42 (by decide) rfl (fun c => ?_) (fun c => ?_)
      · replace h := h.1 c
        refine g_iconst (n := 50) (0 : Int32) C dX9_takesItem_49 (by decide) rfl ?_
        exact g_zret C hr hQ dX9_takesItem_50 rfl h
      · replace h := h.2 c
        refine g_iconst (n := 46) (1 : Int32) C dX9_takesItem_45 (by decide) rfl ?_
        refine g_goto (tgt := 50) C dX9_takesItem_46 (by decide) ?_
        exact g_zret C hr hQ dX9_takesItem_50 rfl h
  · replace h := h.2 c
    refine g_aload_n (n := 26) (i := 0) C dX9_takesItem_25 rfl 1 rfl rfl ?_
    refine g_callVi (n := 29) (kd := 9) C E (c_MD_takesGuest hZ _  M4 _ h) yi_X9_takesGuest wd_937 rfl (om_0 hZ) (by decide) (Nat.le_of_ble_eq_true rfl) dX9_takesItem_26 rfl rfl (fun r8 M7 h => ?_)
    refine g_goto (tgt := 50) C dX9_takesItem_29 (by decide) ?_
    exact g_zret C hr hQ dX9_takesItem_50 h.1 h.2
def B_MD_faultOf_i  (post : Int32 → Mem → Prop) (R9 : Mem → Prop) (M : Mem)  : Prop :=
  P_MD_starts M (fun (M1 : Mem) => ∀ M2 : Mem, M2 = mset M1 0 13 (0 : Int32) → (R9 M2))
def B_MD_faultOf_9  (post : Int32 → Mem → Prop) (R9 : Mem → Prop) (M : Mem)  : Prop :=
  ((((M 0 12) ≤ (M 0 13)) → post (-4 : Int32) M) ∧ ((¬ (M 0 12) ≤ (M 0 13)) → ∀ z3 : Int32, z3 = (M 0 13) → P_MD_takesItem M (fun (r5 : Int32) (M4 : Mem) => (((¬ r5 = 0) → (R9 M4)) ∧ ((r5 = 0) → post z3 M4)))))
def P_MD_faultOf (M : Mem)  (post : Int32 → Mem → Prop) : Prop :=
  ∀ (R9 : Mem → Prop), (∀ (M : Mem) , B_MD_faultOf_9  post R9 M  → R9 M ) → B_MD_faultOf_i  post R9 M
set_option maxHeartbeats 4000000 in
set_option maxRecDepth 100000 in
theorem c_MD_faultOf {Z : ZT} (hZ : IsM Z) (l : Launch)  (M : Mem) (post : Int32 → Mem → Prop) (h : P_MD_faultOf M  post) : CtI Z l yX9_faultOf cX9_faultOf 2 (some .int) 4 94 [.ref (zb Z + 0)] M post := by
  refine ctI (own := RX9) rfl (by decide) (Nat.le_of_ble_eq_true rfl) (fun X C E hr hQ => ?_)
  have s9 : ∀ (M : Mem) , B_MD_faultOf_9  post (fun (M : Mem)  => GS Z X 9 [(0, .ref (zb Z + 0))] [] M) M  → GS Z X 9 [(0, .ref (zb Z + 0))] [] M := by
    intro M  h
    unfold B_MD_faultOf_9 at h
    refine g_aload_n (n := 10) (i := 0) C dX9_faultOf_9 rfl 0 rfl rfl ?_
    refine gf_X9_99 (n := 13) C E (om_0 hZ) dX9_faultOf_10 rfl ?_
    refine g_aload_n (n := 14) (i := 0) C dX9_faultOf_13 rfl 0 rfl rfl ?_
    refine gf_X9_96 (n := 17) C E (om_0 hZ) dX9_faultOf_14 rfl ?_
    refine g_icmp_ge (n := 20) (tgt := 37) C dX9_faultOf_17 (by decide) rfl (fun c => ?_) (fun c => ?_)
    · replace h := h.1 c
      refine g_bipush (n := 39) (-4 : Int32) C dX9_faultOf_37 (by decide) rfl ?_
      exact g_iret C hr hQ dX9_faultOf_39 h
    · replace h := h.2 c
      refine g_aload_n (n := 21) (i := 0) C dX9_faultOf_20 rfl 0 rfl rfl ?_
      refine gf_X9_99 (n := 24) C E (om_0 hZ) dX9_faultOf_21 rfl ?_
      refine g_istore_n (n := 25) (i := 1) C dX9_faultOf_24 rfl (Nat.le_of_ble_eq_true rfl) rfl rfl (fun z3 ez3 => ?_)
      replace h := h z3 ez3
      refine g_aload_n (n := 26) (i := 0) C dX9_faultOf_25 rfl 1 rfl rfl ?_
      refine g_callVi (n := 29) (kd := 9) C E (c_MD_takesItem hZ _  M _ h) yi_X9_takesItem wd_929 rfl (om_0 hZ) (by decide) (Nat.le_of_ble_eq_true rfl) dX9_faultOf_26 rfl rfl (fun r5 M4 h => ?_)
      refine g_if_ne (n := 32) (tgt := 34) C dX9_faultOf_29 (by decide) rfl (fun c => ?_) (fun c => ?_)
      · replace h := h.1 c
        refine g_goto (tgt := 9) C dX9_faultOf_34 (by decide) ?_
        exact g_sub [1] rfl h
      · replace h := h.2 c
        refine g_iload_n (n := 33) (i := 1) C dX9_faultOf_32 rfl 0 rfl rfl ?_
        exact g_iret C hr hQ dX9_faultOf_33 h
  replace h := h (fun (M : Mem)  => GS Z X 9 [(0, .ref (zb Z + 0))] [] M) s9
  unfold B_MD_faultOf_i at h
  show GS Z X 0 [(0, .ref (zb Z + 0))] [] M
  refine g_aload_n (n := 1) (i := 0) C dX9_faultOf_0 rfl 0 rfl rfl ?_
  refine g_callVv (n := 4) (kd := 9) C E (c_MD_starts hZ _  M _ h) yi_X9_starts wd_819 rfl (om_0 hZ) (by decide) (Nat.le_of_ble_eq_true rfl) dX9_faultOf_1 rfl rfl (fun M1 h => ?_)
  refine g_aload_n (n := 5) (i := 0) C dX9_faultOf_4 rfl 0 rfl rfl ?_
  refine g_iconst (n := 6) (0 : Int32) C dX9_faultOf_5 (by decide) rfl ?_
  refine gp_X9_99 (n := 9) C E (om_0 hZ) dX9_faultOf_6 rfl (fun M2 eM2 => ?_)
  replace h := h M2 eM2
  exact g_sub [0] rfl h
def B_MD_fault_i  (post : Int32 → Mem → Prop)  (M : Mem)  : Prop :=
  P_MD_faultOf M (fun (r2 : Int32) (M1 : Mem) => post r2 M1)
def P_MD_fault (M : Mem)  (post : Int32 → Mem → Prop) : Prop := B_MD_fault_i  post M
set_option maxHeartbeats 4000000 in
set_option maxRecDepth 100000 in
theorem c_MD_fault {Z : ZT} (hZ : IsM Z) (l : Launch)  (M : Mem) (post : Int32 → Mem → Prop) (h : P_MD_fault M  post) : CtI Z l yX9_fault cX9_fault 1 (some .int) 5 115 [.ref (zb Z + 0)] M post := by
  refine ctI (own := RX9) rfl (by decide) (Nat.le_of_ble_eq_true rfl) (fun X C E hr hQ => ?_)
  unfold P_MD_fault at h
  unfold B_MD_fault_i at h
  show GS Z X 0 [(0, .ref (zb Z + 0))] [] M
  refine g_aload_n (n := 1) (i := 0) C dX9_fault_0 rfl 0 rfl rfl ?_
  refine g_callVi (n := 4) (kd := 9) C E (c_MD_faultOf hZ _  M _ h) yi_X9_faultOf wd_925 rfl (om_0 hZ) (by decide) (Nat.le_of_ble_eq_true rfl) dX9_fault_1 rfl rfl (fun r2 M1 h => ?_)
  exact g_iret C hr hQ dX9_fault_4 h
def B_MD_lay_i  (post : Int32 → Mem → Prop)  (M : Mem)  : Prop :=
  P_MD_faultOf M (fun (r2 : Int32) (M1 : Mem) => (((¬ r2 = (-4 : Int32)) → post (-2 : Int32) M1) ∧ ((r2 = (-4 : Int32)) → (((¬ (M1 0 15) = 0) → P_MD_begins M1 (fun (M3 : Mem) => post (M3 0 3) M3)) ∧ (((M1 0 15) = 0) → post (-2 : Int32) M1)))))
def P_MD_lay (M : Mem)  (post : Int32 → Mem → Prop) : Prop := B_MD_lay_i  post M
set_option maxHeartbeats 4000000 in
set_option maxRecDepth 100000 in
theorem c_MD_lay {Z : ZT} (hZ : IsM Z) (l : Launch)  (M : Mem) (post : Int32 → Mem → Prop) (h : P_MD_lay M  post) : CtI Z l yX9_lay cX9_lay 1 (some .int) 5 115 [.ref (zb Z + 0)] M post := by
  refine ctI (own := RX9) rfl (by decide) (Nat.le_of_ble_eq_true rfl) (fun X C E hr hQ => ?_)
  unfold P_MD_lay at h
  unfold B_MD_lay_i at h
  show GS Z X 0 [(0, .ref (zb Z + 0))] [] M
  refine g_aload_n (n := 1) (i := 0) C dX9_lay_0 rfl 0 rfl rfl ?_
  refine g_callVi (n := 4) (kd := 9) C E (c_MD_faultOf hZ _  M _ h) yi_X9_faultOf wd_925 rfl (om_0 hZ) (by decide) (Nat.le_of_ble_eq_true rfl) dX9_lay_1 rfl rfl (fun r2 M1 h => ?_)
  refine g_bipush (n := 6) (-4 : Int32) C dX9_lay_4 (by decide) rfl ?_
  refine g_icmp_ne (n := 9) (tgt := 16) C dX9_lay_6 (by decide) rfl (fun c => ?_) (fun c => ?_)
  · replace h := h.1 c
    refine g_bipush (n := 18) (-2 : Int32) C dX9_lay_16 (by decide) rfl ?_
    exact g_iret C hr hQ dX9_lay_18 h
  · replace h := h.2 c
    refine g_aload_n (n := 10) (i := 0) C dX9_lay_9 rfl 0 rfl rfl ?_
    refine gf_X9_77 (n := 13) C E (om_0 hZ) dX9_lay_10 rfl ?_
    refine g_if_ne (n := 16) (tgt := 19) C dX9_lay_13 (by decide) rfl (fun c => ?_) (fun c => ?_)
    · replace h := h.1 c
      refine g_aload_n (n := 20) (i := 0) C dX9_lay_19 rfl 0 rfl rfl ?_
      refine g_callVv (n := 23) (kd := 9) C E (c_MD_begins hZ _  M1 _ h) yi_X9_begins wd_831 rfl (om_0 hZ) (by decide) (Nat.le_of_ble_eq_true rfl) dX9_lay_20 rfl rfl (fun M3 h => ?_)
      refine g_aload_n (n := 24) (i := 0) C dX9_lay_23 rfl 0 rfl rfl ?_
      refine gf_X9_69 (n := 27) C E (om_0 hZ) dX9_lay_24 rfl ?_
      exact g_iret C hr hQ dX9_lay_27 h
    · replace h := h.2 c
      refine g_bipush (n := 18) (-2 : Int32) C dX9_lay_16 (by decide) rfl ?_
      exact g_iret C hr hQ dX9_lay_18 h
def B_MD_guest_i (p1 : Int32) (p2 : Int32) (post : Int32 → Mem → Prop)  (M : Mem)  : Prop :=
  P_MD_isGuest M p1 (fun (r2 : Int32) (M1 : Mem) => (((¬ r2 = 0) → (((¬ p2 = 0) → (((¬ p2 = (1 : Int32)) → (((¬ p2 = (2 : Int32)) → (((¬ p2 = (3 : Int32)) → post (-1 : Int32) M1) ∧ ((p2 = (3 : Int32)) → vp_in p1 7 ∧ (post (M1 5 (p1).toNatClampNeg) M1)))) ∧ ((p2 = (2 : Int32)) → vp_in p1 7 ∧ (post (M1 4 (p1).toNatClampNeg) M1)))) ∧ ((p2 = (1 : Int32)) → vp_in p1 7 ∧ (post (M1 3 (p1).toNatClampNeg) M1)))) ∧ ((p2 = 0) → vp_in p1 7 ∧ (post (M1 2 (p1).toNatClampNeg) M1)))) ∧ ((r2 = 0) → post (-1 : Int32) M1)))
def P_MD_guest (M : Mem) (p1 : Int32) (p2 : Int32) (post : Int32 → Mem → Prop) : Prop := B_MD_guest_i p1 p2 post M
set_option maxHeartbeats 4000000 in
set_option maxRecDepth 100000 in
theorem c_MD_guest {Z : ZT} (hZ : IsM Z) (l : Launch) (p1 : Int32) (p2 : Int32) (M : Mem) (post : Int32 → Mem → Prop) (h : P_MD_guest M p1 p2 post) : CtI Z l yX9_guest cX9_guest 3 (some .int) 2 46 [.ref (zb Z + 0), .int p1, .int p2] M post := by
  refine ctI (own := RX9) rfl (by decide) (Nat.le_of_ble_eq_true rfl) (fun X C E hr hQ => ?_)
  unfold P_MD_guest at h
  unfold B_MD_guest_i at h
  show GS Z X 0 [(0, .ref (zb Z + 0)), (1, .int p1), (2, .int p2)] [] M
  refine g_aload_n (n := 1) (i := 0) C dX9_guest_0 rfl 0 rfl rfl ?_
  refine g_iload_n (n := 2) (i := 1) C dX9_guest_1 rfl 1 rfl rfl ?_
  refine g_callVi (n := 5) (kd := 9) C E (c_MD_isGuest hZ _ p1 M _ h) yi_X9_isGuest wd_959 rfl (om_0 hZ) (by decide) (Nat.le_of_ble_eq_true rfl) dX9_guest_2 rfl rfl (fun r2 M1 h => ?_)
  refine g_if_ne (n := 8) (tgt := 10) C dX9_guest_5 (by decide) rfl (fun c => ?_) (fun c => ?_)
  · replace h := h.1 c
    refine g_iload_n (n := 11) (i := 2) C dX9_guest_10 rfl 2 rfl rfl ?_
    refine g_if_ne (n := 14) (tgt := 23) C dX9_guest_11 (by decide) rfl (fun c => ?_) (fun c => ?_)
    · replace h := h.1 c
      refine g_iload_n (n := 24) (i := 2) C dX9_guest_23 rfl 2 rfl rfl ?_
      refine g_iconst (n := 25) (1 : Int32) C dX9_guest_24 (by decide) rfl ?_
      refine g_icmp_ne (n := 28) (tgt := 37) C dX9_guest_25 (by decide) rfl (fun c => ?_) (fun c => ?_)
      · replace h := h.1 c
        refine g_iload_n (n := 38) (i := 2) C dX9_guest_37 rfl 2 rfl rfl ?_
        refine g_iconst (n := 39) (2 : Int32) C dX9_guest_38 (by decide) rfl ?_
        refine g_icmp_ne (n := 42) (tgt := 51) C dX9_guest_39 (by decide) rfl (fun c => ?_) (fun c => ?_)
        · replace h := h.1 c
          refine g_iload_n (n := 52) (i := 2) C dX9_guest_51 rfl 2 rfl rfl ?_
          refine g_iconst (n := 53) (3 : Int32) C dX9_guest_52 (by decide) rfl ?_
          refine g_icmp_ne (n := 56) (tgt := 65) C dX9_guest_53 (by decide) rfl (fun c => ?_) (fun c => ?_)
          · replace h := h.1 c
            refine g_iconst (n := 66) (-1 : Int32) C dX9_guest_65 (by decide) rfl ?_
            exact g_iret C hr hQ dX9_guest_66 h
          · replace h := h.2 c
            refine g_aload_n (n := 57) (i := 0) C dX9_guest_56 rfl 0 rfl rfl ?_
            refine gf_X9_22 (n := 60) 5 C E (om_0 hZ) rfl dX9_guest_57 rfl ?_
            refine g_iload_n (n := 61) (i := 1) C dX9_guest_60 rfl 1 rfl rfl ?_
            refine g_iald (n := 62) C E (om_5 hZ) h.1 dX9_guest_61 rfl ?_
            replace h := h.2
            refine g_goto (tgt := 66) C dX9_guest_62 (by decide) ?_
            exact g_iret C hr hQ dX9_guest_66 h
        · replace h := h.2 c
          refine g_aload_n (n := 43) (i := 0) C dX9_guest_42 rfl 0 rfl rfl ?_
          refine gf_X9_19 (n := 46) 4 C E (om_0 hZ) rfl dX9_guest_43 rfl ?_
          refine g_iload_n (n := 47) (i := 1) C dX9_guest_46 rfl 1 rfl rfl ?_
          refine g_iald (n := 48) C E (om_4 hZ) h.1 dX9_guest_47 rfl ?_
          replace h := h.2
          refine g_goto (tgt := 66) C dX9_guest_48 (by decide) ?_
          exact g_iret C hr hQ dX9_guest_66 h
      · replace h := h.2 c
        refine g_aload_n (n := 29) (i := 0) C dX9_guest_28 rfl 0 rfl rfl ?_
        refine gf_X9_16 (n := 32) 3 C E (om_0 hZ) rfl dX9_guest_29 rfl ?_
        refine g_iload_n (n := 33) (i := 1) C dX9_guest_32 rfl 1 rfl rfl ?_
        refine g_iald (n := 34) C E (om_3 hZ) h.1 dX9_guest_33 rfl ?_
        replace h := h.2
        refine g_goto (tgt := 66) C dX9_guest_34 (by decide) ?_
        exact g_iret C hr hQ dX9_guest_66 h
    · replace h := h.2 c
      refine g_aload_n (n := 15) (i := 0) C dX9_guest_14 rfl 0 rfl rfl ?_
      refine gf_X9_13 (n := 18) 2 C E (om_0 hZ) rfl dX9_guest_15 rfl ?_
      refine g_iload_n (n := 19) (i := 1) C dX9_guest_18 rfl 1 rfl rfl ?_
      refine g_iald (n := 20) C E (om_2 hZ) h.1 dX9_guest_19 rfl ?_
      replace h := h.2
      refine g_goto (tgt := 66) C dX9_guest_20 (by decide) ?_
      exact g_iret C hr hQ dX9_guest_66 h
  · replace h := h.2 c
    refine g_iconst (n := 9) (-1 : Int32) C dX9_guest_8 (by decide) rfl ?_
    exact g_iret C hr hQ dX9_guest_9 h
def B_MD_state_i (p1 : Int32) (p2 : Int32) (post : Int32 → Mem → Prop)  (M : Mem)  : Prop :=
  P_MD_isGuest M p1 (fun (r2 : Int32) (M1 : Mem) => (((r2 = 0) → post (-1 : Int32) M1) ∧ ((¬ r2 = 0) → P_MD_in M1 p2.toInt64 (0 : Int64) (6 : Int64) (fun (r4 : Int32) (M3 : Mem) => (((r4 = 0) → post (-1 : Int32) M3) ∧ ((¬ r4 = 0) → vp_in (((2 : Int32) + ((7 : Int32) * p2)) + p1) 612 ∧ (post (M3 1 ((((2 : Int32) + ((7 : Int32) * p2)) + p1)).toNatClampNeg) M3)))))))
def P_MD_state (M : Mem) (p1 : Int32) (p2 : Int32) (post : Int32 → Mem → Prop) : Prop := B_MD_state_i p1 p2 post M
set_option maxHeartbeats 4000000 in
set_option maxRecDepth 100000 in
theorem c_MD_state {Z : ZT} (hZ : IsM Z) (l : Launch) (p1 : Int32) (p2 : Int32) (M : Mem) (post : Int32 → Mem → Prop) (h : P_MD_state M p1 p2 post) : CtI Z l yX9_state cX9_state 3 (some .int) 2 46 [.ref (zb Z + 0), .int p1, .int p2] M post := by
  refine ctI (own := RX9) rfl (by decide) (Nat.le_of_ble_eq_true rfl) (fun X C E hr hQ => ?_)
  unfold P_MD_state at h
  unfold B_MD_state_i at h
  show GS Z X 0 [(0, .ref (zb Z + 0)), (1, .int p1), (2, .int p2)] [] M
  refine g_aload_n (n := 1) (i := 0) C dX9_state_0 rfl 0 rfl rfl ?_
  refine g_iload_n (n := 2) (i := 1) C dX9_state_1 rfl 1 rfl rfl ?_
  refine g_callVi (n := 5) (kd := 9) C E (c_MD_isGuest hZ _ p1 M _ h) yi_X9_isGuest wd_959 rfl (om_0 hZ) (by decide) (Nat.le_of_ble_eq_true rfl) dX9_state_2 rfl rfl (fun r2 M1 h => ?_)
  refine g_if_eq (n := 8) (tgt := 36) C dX9_state_5 (by decide) rfl (fun c => ?_) (fun c => ?_)
  · replace h := h.1 c
    refine g_iconst (n := 37) (-1 : Int32) C dX9_state_36 (by decide) rfl ?_
    exact g_iret C hr hQ dX9_state_37 h
  · replace h := h.2 c
    refine g_iload_n (n := 9) (i := 2) C dX9_state_8 rfl 2 rfl rfl ?_
    refine g_i2l (n := 10) C dX9_state_9 rfl ?_
    refine g_lconst (n := 11) (0 : Int64) C dX9_state_10 (by decide) rfl ?_
    refine g_ldc2 (n := 14) (6 : Int64) C wd_967 dX9_state_11 rfl ?_
    refine g_callSi (n := 17) C E (c_MD_in hZ _ p2.toInt64 (0 : Int64) (6 : Int64) M1 _ h) ys_X9_in wd_914 (by decide) (Nat.le_of_ble_eq_true rfl) dX9_state_14 rfl rfl (fun r4 M3 h => ?_)
    refine g_if_eq (n := 20) (tgt := 36) C dX9_state_17 (by decide) rfl (fun c => ?_) (fun c => ?_)
    · replace h := h.1 c
      refine g_iconst (n := 37) (-1 : Int32) C dX9_state_36 (by decide) rfl ?_
      exact g_iret C hr hQ dX9_state_37 h
    · replace h := h.2 c
      refine g_aload_n (n := 21) (i := 0) C dX9_state_20 rfl 0 rfl rfl ?_
      refine gf_X9_7 (n := 24) 1 C E (om_0 hZ) rfl dX9_state_21 rfl ?_
      refine g_iconst (n := 25) (2 : Int32) C dX9_state_24 (by decide) rfl ?_
      refine g_bipush (n := 27) (7 : Int32) C dX9_state_25 (by decide) rfl ?_
      refine g_iload_n (n := 28) (i := 2) C dX9_state_27 rfl 2 rfl rfl ?_
      refine g_imul (n := 29) C dX9_state_28 rfl ?_
      refine g_iadd (n := 30) C dX9_state_29 rfl ?_
      refine g_iload_n (n := 31) (i := 1) C dX9_state_30 rfl 1 rfl rfl ?_
      refine g_iadd (n := 32) C dX9_state_31 rfl ?_
      refine g_iald (n := 33) C E (om_1 hZ) h.1 dX9_state_32 rfl ?_
      replace h := h.2
      refine g_goto (tgt := 37) C dX9_state_33 (by decide) ?_
      exact g_iret C hr hQ dX9_state_37 h
def B_MD_bringsIn_i (p1 : Int32) (p2 : Int32) (post : Int32 → Mem → Prop)  (M : Mem)  : Prop :=
  vp_in p2 7 ∧ ((((¬ (M 2 (p2).toNatClampNeg) = (1 : Int32)) → vp_in p2 7 ∧ ((((¬ (M 2 (p2).toNatClampNeg) = (3 : Int32)) → vp_in p2 7 ∧ (∀ z1 : Int32, z1 = (M 3 (p2).toNatClampNeg) → vp_in ((p1 + (16 : Int32)) + p2) 612 ∧ (post (z1 + (M 1 (((p1 + (16 : Int32)) + p2)).toNatClampNeg)) M))) ∧ (((M 2 (p2).toNatClampNeg) = (3 : Int32)) → vp_in p2 7 ∧ (∀ z2 : Int32, z2 = ((M 3 (p2).toNatClampNeg) / (2 : Int32)) → vp_in ((p1 + (16 : Int32)) + p2) 612 ∧ (post (z2 + (M 1 (((p1 + (16 : Int32)) + p2)).toNatClampNeg)) M)))))) ∧ (((M 2 (p2).toNatClampNeg) = (1 : Int32)) → vp_in p2 7 ∧ (∀ z3 : Int32, z3 = ((2 : Int32) * (M 3 (p2).toNatClampNeg)) → vp_in ((p1 + (16 : Int32)) + p2) 612 ∧ (post (z3 + (M 1 (((p1 + (16 : Int32)) + p2)).toNatClampNeg)) M)))))
def P_MD_bringsIn (M : Mem) (p1 : Int32) (p2 : Int32) (post : Int32 → Mem → Prop) : Prop := B_MD_bringsIn_i p1 p2 post M
set_option maxHeartbeats 4000000 in
set_option maxRecDepth 100000 in
theorem c_MD_bringsIn {Z : ZT} (hZ : IsM Z) (l : Launch) (p1 : Int32) (p2 : Int32) (M : Mem) (post : Int32 → Mem → Prop) (h : P_MD_bringsIn M p1 p2 post) : CtI Z l yX9_bringsIn cX9_bringsIn 4 (some .int) 0 0 [.ref (zb Z + 0), .int p1, .int p2] M post := by
  refine ctI (own := RX9) rfl (by decide) (Nat.le_of_ble_eq_true rfl) (fun X C E hr hQ => ?_)
  unfold P_MD_bringsIn at h
  unfold B_MD_bringsIn_i at h
  show GS Z X 0 [(0, .ref (zb Z + 0)), (1, .int p1), (2, .int p2)] [] M
  refine g_aload_n (n := 1) (i := 0) C dX9_bringsIn_0 rfl 0 rfl rfl ?_
  refine gf_X9_13 (n := 4) 2 C E (om_0 hZ) rfl dX9_bringsIn_1 rfl ?_
  refine g_iload_n (n := 5) (i := 2) C dX9_bringsIn_4 rfl 2 rfl rfl ?_
  refine g_iald (n := 6) C E (om_2 hZ) h.1 dX9_bringsIn_5 rfl ?_
  replace h := h.2
  refine g_iconst (n := 7) (1 : Int32) C dX9_bringsIn_6 (by decide) rfl ?_
  refine g_icmp_ne (n := 10) (tgt := 21) C dX9_bringsIn_7 (by decide) rfl (fun c => ?_) (fun c => ?_)
  · replace h := h.1 c
    refine g_aload_n (n := 22) (i := 0) C dX9_bringsIn_21 rfl 0 rfl rfl ?_
    refine gf_X9_13 (n := 25) 2 C E (om_0 hZ) rfl dX9_bringsIn_22 rfl ?_
    refine g_iload_n (n := 26) (i := 2) C dX9_bringsIn_25 rfl 2 rfl rfl ?_
    refine g_iald (n := 27) C E (om_2 hZ) h.1 dX9_bringsIn_26 rfl ?_
    replace h := h.2
    refine g_iconst (n := 28) (3 : Int32) C dX9_bringsIn_27 (by decide) rfl ?_
    refine g_icmp_ne (n := 31) (tgt := 42) C dX9_bringsIn_28 (by decide) rfl (fun c => ?_) (fun c => ?_)
    · replace h := h.1 c
      refine g_aload_n (n := 43) (i := 0) C dX9_bringsIn_42 rfl 0 rfl rfl ?_
      refine gf_X9_16 (n := 46) 3 C E (om_0 hZ) rfl dX9_bringsIn_43 rfl ?_
      refine g_iload_n (n := 47) (i := 2) C dX9_bringsIn_46 rfl 2 rfl rfl ?_
      refine g_iald (n := 48) C E (om_3 hZ) h.1 dX9_bringsIn_47 rfl ?_
      replace h := h.2
      refine g_istore_n (n := 49) (i := 3) C dX9_bringsIn_48 rfl (Nat.le_of_ble_eq_true rfl) rfl rfl (fun z1 ez1 => ?_)
      replace h := h z1 ez1
      refine g_iload_n (n := 50) (i := 3) C dX9_bringsIn_49 rfl 0 rfl rfl ?_
      refine g_aload_n (n := 51) (i := 0) C dX9_bringsIn_50 rfl 1 rfl rfl ?_
      refine gf_X9_7 (n := 54) 1 C E (om_0 hZ) rfl dX9_bringsIn_51 rfl ?_
      refine g_iload_n (n := 55) (i := 1) C dX9_bringsIn_54 rfl 2 rfl rfl ?_
      refine g_bipush (n := 57) (16 : Int32) C dX9_bringsIn_55 (by decide) rfl ?_
      refine g_iadd (n := 58) C dX9_bringsIn_57 rfl ?_
      refine g_iload_n (n := 59) (i := 2) C dX9_bringsIn_58 rfl 3 rfl rfl ?_
      refine g_iadd (n := 60) C dX9_bringsIn_59 rfl ?_
      refine g_iald (n := 61) C E (om_1 hZ) h.1 dX9_bringsIn_60 rfl ?_
      replace h := h.2
      refine g_iadd (n := 62) C dX9_bringsIn_61 rfl ?_
      exact g_iret C hr hQ dX9_bringsIn_62 h
    · replace h := h.2 c
      refine g_aload_n (n := 32) (i := 0) C dX9_bringsIn_31 rfl 0 rfl rfl ?_
      refine gf_X9_16 (n := 35) 3 C E (om_0 hZ) rfl dX9_bringsIn_32 rfl ?_
      refine g_iload_n (n := 36) (i := 2) C dX9_bringsIn_35 rfl 2 rfl rfl ?_
      refine g_iald (n := 37) C E (om_3 hZ) h.1 dX9_bringsIn_36 rfl ?_
      replace h := h.2
      refine g_iconst (n := 38) (2 : Int32) C dX9_bringsIn_37 (by decide) rfl ?_
      refine g_idiv (n := 39) C dX9_bringsIn_38 (by decide) rfl ?_
      refine g_goto (tgt := 48) C dX9_bringsIn_39 (by decide) ?_
      refine g_istore_n (n := 49) (i := 3) C dX9_bringsIn_48 rfl (Nat.le_of_ble_eq_true rfl) rfl rfl (fun z2 ez2 => ?_)
      replace h := h z2 ez2
      refine g_iload_n (n := 50) (i := 3) C dX9_bringsIn_49 rfl 0 rfl rfl ?_
      refine g_aload_n (n := 51) (i := 0) C dX9_bringsIn_50 rfl 1 rfl rfl ?_
      refine gf_X9_7 (n := 54) 1 C E (om_0 hZ) rfl dX9_bringsIn_51 rfl ?_
      refine g_iload_n (n := 55) (i := 1) C dX9_bringsIn_54 rfl 2 rfl rfl ?_
      refine g_bipush (n := 57) (16 : Int32) C dX9_bringsIn_55 (by decide) rfl ?_
      refine g_iadd (n := 58) C dX9_bringsIn_57 rfl ?_
      refine g_iload_n (n := 59) (i := 2) C dX9_bringsIn_58 rfl 3 rfl rfl ?_
      refine g_iadd (n := 60) C dX9_bringsIn_59 rfl ?_
      refine g_iald (n := 61) C E (om_1 hZ) h.1 dX9_bringsIn_60 rfl ?_
      replace h := h.2
      refine g_iadd (n := 62) C dX9_bringsIn_61 rfl ?_
      exact g_iret C hr hQ dX9_bringsIn_62 h
  · replace h := h.2 c
    refine g_iconst (n := 11) (2 : Int32) C dX9_bringsIn_10 (by decide) rfl ?_
    refine g_aload_n (n := 12) (i := 0) C dX9_bringsIn_11 rfl 0 rfl rfl ?_
    refine gf_X9_16 (n := 15) 3 C E (om_0 hZ) rfl dX9_bringsIn_12 rfl ?_
    refine g_iload_n (n := 16) (i := 2) C dX9_bringsIn_15 rfl 2 rfl rfl ?_
    refine g_iald (n := 17) C E (om_3 hZ) h.1 dX9_bringsIn_16 rfl ?_
    replace h := h.2
    refine g_imul (n := 18) C dX9_bringsIn_17 rfl ?_
    refine g_goto (tgt := 48) C dX9_bringsIn_18 (by decide) ?_
    refine g_istore_n (n := 49) (i := 3) C dX9_bringsIn_48 rfl (Nat.le_of_ble_eq_true rfl) rfl rfl (fun z3 ez3 => ?_)
    replace h := h z3 ez3
    refine g_iload_n (n := 50) (i := 3) C dX9_bringsIn_49 rfl 0 rfl rfl ?_
    refine g_aload_n (n := 51) (i := 0) C dX9_bringsIn_50 rfl 1 rfl rfl ?_
    refine gf_X9_7 (n := 54) 1 C E (om_0 hZ) rfl dX9_bringsIn_51 rfl ?_
    refine g_iload_n (n := 55) (i := 1) C dX9_bringsIn_54 rfl 2 rfl rfl ?_
    refine g_bipush (n := 57) (16 : Int32) C dX9_bringsIn_55 (by decide) rfl ?_
    refine g_iadd (n := 58) C dX9_bringsIn_57 rfl ?_
    refine g_iload_n (n := 59) (i := 2) C dX9_bringsIn_58 rfl 3 rfl rfl ?_
    refine g_iadd (n := 60) C dX9_bringsIn_59 rfl ?_
    refine g_iald (n := 61) C E (om_1 hZ) h.1 dX9_bringsIn_60 rfl ?_
    replace h := h.2
    refine g_iadd (n := 62) C dX9_bringsIn_61 rfl ?_
    exact g_iret C hr hQ dX9_bringsIn_62 h
def B_MD_comes_i (p1 : Int32) (p2 : Int32) (post : Mem → Prop) (R64 : Mem → Prop) (M : Mem)  : Prop :=
  vp_in (p1 + (1 : Int32)) 612 ∧ (∀ z1 : Int32, z1 = (M 1 ((p1 + (1 : Int32))).toNatClampNeg) → (((z1 = (-4 : Int32)) → (R64 M)) ∧ ((¬ z1 = (-4 : Int32)) → vp_in ((p1 + (23 : Int32)) + z1) 612 ∧ (P_MD_bringsIn M p1 p2 (fun (r3 : Int32) (M2 : Mem) => vp_in ((p1 + (23 : Int32)) + z1) 612 ∧ (∀ M4 : Mem, M4 = mset M2 1 (((p1 + (23 : Int32)) + z1)).toNatClampNeg ((M 1 (((p1 + (23 : Int32)) + z1)).toNatClampNeg) + r3) → vp_in ((p1 + (37 : Int32)) + z1) 612 ∧ (vp_in ((p1 + (37 : Int32)) + z1) 612 ∧ (∀ M5 : Mem, M5 = mset M4 1 (((p1 + (37 : Int32)) + z1)).toNatClampNeg ((M4 1 (((p1 + (37 : Int32)) + z1)).toNatClampNeg) ||| ((1 : Int32) <<< (p2 &&& 31))) → vp_in ((p1 + (30 : Int32)) + p2) 612 ∧ (∀ M6 : Mem, M6 = mset M5 1 (((p1 + (30 : Int32)) + p2)).toNatClampNeg z1 → (R64 M6))))))))))
def B_MD_comes_64 (p1 : Int32) (p2 : Int32) (post : Mem → Prop) (R64 : Mem → Prop) (M : Mem)  : Prop :=
  vp_in p2 7 ∧ ((((¬ (M 2 (p2).toNatClampNeg) = (2 : Int32)) → vp_in ((p1 + (2 : Int32)) + p2) 612 ∧ (∀ M7 : Mem, M7 = mset M 1 (((p1 + (2 : Int32)) + p2)).toNatClampNeg (1 : Int32) → vp_in (p1 + (1 : Int32)) 612 ∧ (∀ M8 : Mem, M8 = mset M7 1 ((p1 + (1 : Int32))).toNatClampNeg p2 → post M8))) ∧ (((M 2 (p2).toNatClampNeg) = (2 : Int32)) → vp_in ((p1 + (2 : Int32)) + p2) 612 ∧ (∀ M9 : Mem, M9 = mset M 1 (((p1 + (2 : Int32)) + p2)).toNatClampNeg (2 : Int32) → post M9))))
def P_MD_comes (M : Mem) (p1 : Int32) (p2 : Int32) (post : Mem → Prop) : Prop :=
  ∀ (R64 : Mem → Prop), (∀ (M : Mem) , B_MD_comes_64 p1 p2 post R64 M  → R64 M ) → B_MD_comes_i p1 p2 post R64 M
set_option maxHeartbeats 4000000 in
set_option maxRecDepth 100000 in
theorem c_MD_comes {Z : ZT} (hZ : IsM Z) (l : Launch) (p1 : Int32) (p2 : Int32) (M : Mem) (post : Mem → Prop) (h : P_MD_comes M p1 p2 post) : CtV Z l yX9_comes cX9_comes 4 none 1 23 [.ref (zb Z + 0), .int p1, .int p2] M post := by
  refine ctV (own := RX9) rfl (by decide) (Nat.le_of_ble_eq_true rfl) (fun X C E hr hQ => ?_)
  have s64 : ∀ (M : Mem) , B_MD_comes_64 p1 p2 post (fun (M : Mem)  => GS Z X 64 [(0, .ref (zb Z + 0)), (1, .int p1), (2, .int p2)] [] M) M  → GS Z X 64 [(0, .ref (zb Z + 0)), (1, .int p1), (2, .int p2)] [] M := by
    intro M  h
    unfold B_MD_comes_64 at h
    refine g_aload_n (n := 65) (i := 0) C dX9_comes_64 rfl 0 rfl rfl ?_
    refine gf_X9_13 (n := 68) 2 C E (om_0 hZ) rfl dX9_comes_65 rfl ?_
    refine g_iload_n (n := 69) (i := 2) C dX9_comes_68 rfl 2 rfl rfl ?_
    refine g_iald (n := 70) C E (om_2 hZ) h.1 dX9_comes_69 rfl ?_
    replace h := h.2
    refine g_iconst (n := 71) (2 : Int32) C dX9_comes_70 (by decide) rfl ?_
    refine g_icmp_ne (n := 74) (tgt := 88) C dX9_comes_71 (by decide) rfl (fun c => ?_) (fun c => ?_)
    · replace h := h.1 c
      refine g_aload_n (n := 89) (i := 0) C dX9_comes_88 rfl 0 rfl rfl ?_
      refine gf_X9_7 (n := 92) 1 C E (om_0 hZ) rfl dX9_comes_89 rfl ?_
      refine g_iload_n (n := 93) (i := 1) C dX9_comes_92 rfl 1 rfl rfl ?_
      refine g_iconst (n := 94) (2 : Int32) C dX9_comes_93 (by decide) rfl ?_
      refine g_iadd (n := 95) C dX9_comes_94 rfl ?_
      refine g_iload_n (n := 96) (i := 2) C dX9_comes_95 rfl 2 rfl rfl ?_
      refine g_iadd (n := 97) C dX9_comes_96 rfl ?_
      refine g_iconst (n := 98) (1 : Int32) C dX9_comes_97 (by decide) rfl ?_
      refine g_iast (n := 99) C E (om_1 hZ) h.1 dX9_comes_98 rfl (fun M7 eM7 => ?_)
      replace h := h.2 M7 eM7
      refine g_aload_n (n := 100) (i := 0) C dX9_comes_99 rfl 0 rfl rfl ?_
      refine gf_X9_7 (n := 103) 1 C E (om_0 hZ) rfl dX9_comes_100 rfl ?_
      refine g_iload_n (n := 104) (i := 1) C dX9_comes_103 rfl 1 rfl rfl ?_
      refine g_iconst (n := 105) (1 : Int32) C dX9_comes_104 (by decide) rfl ?_
      refine g_iadd (n := 106) C dX9_comes_105 rfl ?_
      refine g_iload_n (n := 107) (i := 2) C dX9_comes_106 rfl 2 rfl rfl ?_
      refine g_iast (n := 108) C E (om_1 hZ) h.1 dX9_comes_107 rfl (fun M8 eM8 => ?_)
      replace h := h.2 M8 eM8
      exact g_vret C hr hQ dX9_comes_108 h
    · replace h := h.2 c
      refine g_aload_n (n := 75) (i := 0) C dX9_comes_74 rfl 0 rfl rfl ?_
      refine gf_X9_7 (n := 78) 1 C E (om_0 hZ) rfl dX9_comes_75 rfl ?_
      refine g_iload_n (n := 79) (i := 1) C dX9_comes_78 rfl 1 rfl rfl ?_
      refine g_iconst (n := 80) (2 : Int32) C dX9_comes_79 (by decide) rfl ?_
      refine g_iadd (n := 81) C dX9_comes_80 rfl ?_
      refine g_iload_n (n := 82) (i := 2) C dX9_comes_81 rfl 2 rfl rfl ?_
      refine g_iadd (n := 83) C dX9_comes_82 rfl ?_
      refine g_iconst (n := 84) (2 : Int32) C dX9_comes_83 (by decide) rfl ?_
      refine g_iast (n := 85) C E (om_1 hZ) h.1 dX9_comes_84 rfl (fun M9 eM9 => ?_)
      replace h := h.2 M9 eM9
      refine g_goto (tgt := 108) C dX9_comes_85 (by decide) ?_
      exact g_vret C hr hQ dX9_comes_108 h
  replace h := h (fun (M : Mem)  => GS Z X 64 [(0, .ref (zb Z + 0)), (1, .int p1), (2, .int p2)] [] M) s64
  unfold B_MD_comes_i at h
  show GS Z X 0 [(0, .ref (zb Z + 0)), (1, .int p1), (2, .int p2)] [] M
  refine g_aload_n (n := 1) (i := 0) C dX9_comes_0 rfl 0 rfl rfl ?_
  refine gf_X9_7 (n := 4) 1 C E (om_0 hZ) rfl dX9_comes_1 rfl ?_
  refine g_iload_n (n := 5) (i := 1) C dX9_comes_4 rfl 1 rfl rfl ?_
  refine g_iconst (n := 6) (1 : Int32) C dX9_comes_5 (by decide) rfl ?_
  refine g_iadd (n := 7) C dX9_comes_6 rfl ?_
  refine g_iald (n := 8) C E (om_1 hZ) h.1 dX9_comes_7 rfl ?_
  replace h := h.2
  refine g_istore_n (n := 9) (i := 3) C dX9_comes_8 rfl (Nat.le_of_ble_eq_true rfl) rfl rfl (fun z1 ez1 => ?_)
  replace h := h z1 ez1
  refine g_iload_n (n := 10) (i := 3) C dX9_comes_9 rfl 0 rfl rfl ?_
  refine g_bipush (n := 12) (-4 : Int32) C dX9_comes_10 (by decide) rfl ?_
  refine g_icmp_eq (n := 15) (tgt := 64) C dX9_comes_12 (by decide) rfl (fun c => ?_) (fun c => ?_)
  · replace h := h.1 c
    exact g_sub [1, 2, 3] rfl h
  · replace h := h.2 c
    refine g_aload_n (n := 16) (i := 0) C dX9_comes_15 rfl 1 rfl rfl ?_
    refine gf_X9_7 (n := 19) 1 C E (om_0 hZ) rfl dX9_comes_16 rfl ?_
    refine g_iload_n (n := 20) (i := 1) C dX9_comes_19 rfl 2 rfl rfl ?_
    refine g_bipush (n := 22) (23 : Int32) C dX9_comes_20 (by decide) rfl ?_
    refine g_iadd (n := 23) C dX9_comes_22 rfl ?_
    refine g_iload_n (n := 24) (i := 3) C dX9_comes_23 rfl 0 rfl rfl ?_
    refine g_iadd (n := 25) C dX9_comes_24 rfl ?_
    refine g_dup2 (n := 26) C dX9_comes_25 rfl rfl rfl ?_
    refine g_iald (n := 27) C E (om_1 hZ) h.1 dX9_comes_26 rfl ?_
    replace h := h.2
    refine g_aload_n (n := 28) (i := 0) C dX9_comes_27 rfl 1 rfl rfl ?_
    refine g_iload_n (n := 29) (i := 1) C dX9_comes_28 rfl 2 rfl rfl ?_
    refine g_iload_n (n := 30) (i := 2) C dX9_comes_29 rfl 3 rfl rfl ?_
    refine g_callVi (n := 33) (kd := 9) C E (c_MD_bringsIn hZ _ p1 p2 M _ h) yi_X9_bringsIn wd_989 rfl (om_0 hZ) (by decide) (Nat.le_of_ble_eq_true rfl) dX9_comes_30 rfl rfl (fun r3 M2 h => ?_)
    refine g_iadd (n := 34) C dX9_comes_33 rfl ?_
    refine g_iast (n := 35) C E (om_1 hZ) h.1 dX9_comes_34 rfl (fun M4 eM4 => ?_)
    replace h := h.2 M4 eM4
    refine g_aload_n (n := 36) (i := 0) C dX9_comes_35 rfl 1 rfl rfl ?_
    refine gf_X9_7 (n := 39) 1 C E (om_0 hZ) rfl dX9_comes_36 rfl ?_
    refine g_iload_n (n := 40) (i := 1) C dX9_comes_39 rfl 2 rfl rfl ?_
    refine g_bipush (n := 42) (37 : Int32) C dX9_comes_40 (by decide) rfl ?_
    refine g_iadd (n := 43) C dX9_comes_42 rfl ?_
    refine g_iload_n (n := 44) (i := 3) C dX9_comes_43 rfl 0 rfl rfl ?_
    refine g_iadd (n := 45) C dX9_comes_44 rfl ?_
    refine g_dup2 (n := 46) C dX9_comes_45 rfl rfl rfl ?_
    refine g_iald (n := 47) C E (om_1 hZ) h.1 dX9_comes_46 rfl ?_
    replace h := h.2
    refine g_iconst (n := 48) (1 : Int32) C dX9_comes_47 (by decide) rfl ?_
    refine g_iload_n (n := 49) (i := 2) C dX9_comes_48 rfl 3 rfl rfl ?_
    refine g_ishl (n := 50) C dX9_comes_49 rfl ?_
    refine g_ior (n := 51) C dX9_comes_50 rfl ?_
    refine g_iast (n := 52) C E (om_1 hZ) h.1 dX9_comes_51 rfl (fun M5 eM5 => ?_)
    replace h := h.2 M5 eM5
    refine g_aload_n (n := 53) (i := 0) C dX9_comes_52 rfl 1 rfl rfl ?_
    refine gf_X9_7 (n := 56) 1 C E (om_0 hZ) rfl dX9_comes_53 rfl ?_
    refine g_iload_n (n := 57) (i := 1) C dX9_comes_56 rfl 2 rfl rfl ?_
    refine g_bipush (n := 59) (30 : Int32) C dX9_comes_57 (by decide) rfl ?_
    refine g_iadd (n := 60) C dX9_comes_59 rfl ?_
    refine g_iload_n (n := 61) (i := 2) C dX9_comes_60 rfl 3 rfl rfl ?_
    refine g_iadd (n := 62) C dX9_comes_61 rfl ?_
    refine g_iload_n (n := 63) (i := 3) C dX9_comes_62 rfl 0 rfl rfl ?_
    refine g_iast (n := 64) C E (om_1 hZ) h.1 dX9_comes_63 rfl (fun M6 eM6 => ?_)
    replace h := h.2 M6 eM6
    exact g_sub [1, 2, 3] rfl h
def B_MD_goesFree_i (p1 : Int32) (p2 : Int32) (post : Mem → Prop) (R13 : Mem → Int32 → Prop) (M : Mem)  : Prop :=
  vp_in ((p1 + (2 : Int32)) + p2) 612 ∧ (∀ M1 : Mem, M1 = mset M 1 (((p1 + (2 : Int32)) + p2)).toNatClampNeg (2 : Int32) → ∀ z2 : Int32, z2 = (0 : Int32) → (R13 M1 z2))
def B_MD_goesFree_13 (p1 : Int32) (p2 : Int32) (post : Mem → Prop) (R13 : Mem → Int32 → Prop) (M : Mem) (x13_3 : Int32) : Prop :=
  ((((M 0 3) ≤ x13_3) → vp_in ((p1 + (30 : Int32)) + p2) 612 ∧ (∀ z3 : Int32, z3 = (M 1 (((p1 + (30 : Int32)) + p2)).toNatClampNeg) → (((z3 = (-4 : Int32)) → post M) ∧ ((¬ z3 = (-4 : Int32)) → vp_in ((p1 + (44 : Int32)) + p2) 612 ∧ (∀ z4 : Int32, z4 = ((M 1 (((p1 + (44 : Int32)) + p2)).toNatClampNeg) / (2 : Int32)) → vp_in ((p1 + (44 : Int32)) + p2) 612 ∧ (vp_in ((p1 + (44 : Int32)) + p2) 612 ∧ (∀ M5 : Mem, M5 = mset M 1 (((p1 + (44 : Int32)) + p2)).toNatClampNeg ((M 1 (((p1 + (44 : Int32)) + p2)).toNatClampNeg) - z4) → vp_in ((p1 + (44 : Int32)) + z3) 612 ∧ (vp_in ((p1 + (44 : Int32)) + z3) 612 ∧ (∀ M6 : Mem, M6 = mset M5 1 (((p1 + (44 : Int32)) + z3)).toNatClampNeg ((M5 1 (((p1 + (44 : Int32)) + z3)).toNatClampNeg) + z4) → post M6))))))))) ∧ ((¬ (M 0 3) ≤ x13_3) → vp_in ((p1 + (44 : Int32)) + p2) 612 ∧ (vp_in ((p1 + (37 : Int32)) + p2) 612 ∧ (P_MD_has M (M 1 (((p1 + (37 : Int32)) + p2)).toNatClampNeg) x13_3 (fun (r8 : Int32) (M7 : Mem) => (((r8 = 0) → vp_in ((p1 + (44 : Int32)) + p2) 612 ∧ (∀ M9 : Mem, M9 = mset M7 1 (((p1 + (44 : Int32)) + p2)).toNatClampNeg ((M 1 (((p1 + (44 : Int32)) + p2)).toNatClampNeg) + (0 : Int32)) → ∀ z10 : Int32, z10 = x13_3 + (1 : Int32) → (R13 M9 z10))) ∧ ((¬ r8 = 0) → vp_in x13_3 7 ∧ (vp_in ((p1 + (44 : Int32)) + p2) 612 ∧ (∀ M11 : Mem, M11 = mset M7 1 (((p1 + (44 : Int32)) + p2)).toNatClampNeg ((M 1 (((p1 + (44 : Int32)) + p2)).toNatClampNeg) + (M7 4 (x13_3).toNatClampNeg)) → ∀ z12 : Int32, z12 = x13_3 + (1 : Int32) → (R13 M11 z12))))))))))
def P_MD_goesFree (M : Mem) (p1 : Int32) (p2 : Int32) (post : Mem → Prop) : Prop :=
  ∀ (R13 : Mem → Int32 → Prop), (∀ (M : Mem) (x13_3 : Int32), B_MD_goesFree_13 p1 p2 post R13 M x13_3 → R13 M x13_3) → B_MD_goesFree_i p1 p2 post R13 M
set_option maxHeartbeats 4000000 in
set_option maxRecDepth 100000 in
theorem c_MD_goesFree {Z : ZT} (hZ : IsM Z) (l : Launch) (p1 : Int32) (p2 : Int32) (M : Mem) (post : Mem → Prop) (h : P_MD_goesFree M p1 p2 post) : CtV Z l yX9_goesFree cX9_goesFree 5 none 1 21 [.ref (zb Z + 0), .int p1, .int p2] M post := by
  refine ctV (own := RX9) rfl (by decide) (Nat.le_of_ble_eq_true rfl) (fun X C E hr hQ => ?_)
  have s13 : ∀ (M : Mem) (x13_3 : Int32), B_MD_goesFree_13 p1 p2 post (fun (M : Mem) (x13_3 : Int32) => GS Z X 13 [(0, .ref (zb Z + 0)), (1, .int p1), (2, .int p2), (3, .int x13_3)] [] M) M x13_3 → GS Z X 13 [(0, .ref (zb Z + 0)), (1, .int p1), (2, .int p2), (3, .int x13_3)] [] M := by
    intro M x13_3 h
    unfold B_MD_goesFree_13 at h
    refine g_iload_n (n := 14) (i := 3) C dX9_goesFree_13 rfl 3 rfl rfl ?_
    refine g_aload_n (n := 15) (i := 0) C dX9_goesFree_14 rfl 0 rfl rfl ?_
    refine gf_X9_69 (n := 18) C E (om_0 hZ) dX9_goesFree_15 rfl ?_
    refine g_icmp_ge (n := 21) (tgt := 69) C dX9_goesFree_18 (by decide) rfl (fun c => ?_) (fun c => ?_)
    · replace h := h.1 c
      refine g_aload_n (n := 70) (i := 0) C dX9_goesFree_69 rfl 0 rfl rfl ?_
      refine gf_X9_7 (n := 73) 1 C E (om_0 hZ) rfl dX9_goesFree_70 rfl ?_
      refine g_iload_n (n := 74) (i := 1) C dX9_goesFree_73 rfl 1 rfl rfl ?_
      refine g_bipush (n := 76) (30 : Int32) C dX9_goesFree_74 (by decide) rfl ?_
      refine g_iadd (n := 77) C dX9_goesFree_76 rfl ?_
      refine g_iload_n (n := 78) (i := 2) C dX9_goesFree_77 rfl 2 rfl rfl ?_
      refine g_iadd (n := 79) C dX9_goesFree_78 rfl ?_
      refine g_iald (n := 80) C E (om_1 hZ) h.1 dX9_goesFree_79 rfl ?_
      replace h := h.2
      refine g_istore_n (n := 81) (i := 3) C dX9_goesFree_80 rfl (Nat.le_of_ble_eq_true rfl) rfl rfl (fun z3 ez3 => ?_)
      replace h := h z3 ez3
      refine g_iload_n (n := 82) (i := 3) C dX9_goesFree_81 rfl 0 rfl rfl ?_
      refine g_bipush (n := 84) (-4 : Int32) C dX9_goesFree_82 (by decide) rfl ?_
      refine g_icmp_eq (n := 87) (tgt := 134) C dX9_goesFree_84 (by decide) rfl (fun c => ?_) (fun c => ?_)
      · replace h := h.1 c
        exact g_vret C hr hQ dX9_goesFree_134 h
      · replace h := h.2 c
        refine g_aload_n (n := 88) (i := 0) C dX9_goesFree_87 rfl 1 rfl rfl ?_
        refine gf_X9_7 (n := 91) 1 C E (om_0 hZ) rfl dX9_goesFree_88 rfl ?_
        refine g_iload_n (n := 92) (i := 1) C dX9_goesFree_91 rfl 2 rfl rfl ?_
        refine g_bipush (n := 94) (44 : Int32) C dX9_goesFree_92 (by decide) rfl ?_
        refine g_iadd (n := 95) C dX9_goesFree_94 rfl ?_
        refine g_iload_n (n := 96) (i := 2) C dX9_goesFree_95 rfl 3 rfl rfl ?_
        refine g_iadd (n := 97) C dX9_goesFree_96 rfl ?_
        refine g_iald (n := 98) C E (om_1 hZ) h.1 dX9_goesFree_97 rfl ?_
        replace h := h.2
        refine g_iconst (n := 99) (2 : Int32) C dX9_goesFree_98 (by decide) rfl ?_
        refine g_idiv (n := 100) C dX9_goesFree_99 (by decide) rfl ?_
        refine g_istore (n := 102) (i := 4) C dX9_goesFree_100 (Nat.le_of_ble_eq_true rfl) rfl rfl (fun z4 ez4 => ?_)
        replace h := h z4 ez4
        refine g_aload_n (n := 103) (i := 0) C dX9_goesFree_102 rfl 2 rfl rfl ?_
        refine gf_X9_7 (n := 106) 1 C E (om_0 hZ) rfl dX9_goesFree_103 rfl ?_
        refine g_iload_n (n := 107) (i := 1) C dX9_goesFree_106 rfl 3 rfl rfl ?_
        refine g_bipush (n := 109) (44 : Int32) C dX9_goesFree_107 (by decide) rfl ?_
        refine g_iadd (n := 110) C dX9_goesFree_109 rfl ?_
        refine g_iload_n (n := 111) (i := 2) C dX9_goesFree_110 rfl 4 rfl rfl ?_
        refine g_iadd (n := 112) C dX9_goesFree_111 rfl ?_
        refine g_dup2 (n := 113) C dX9_goesFree_112 rfl rfl rfl ?_
        refine g_iald (n := 114) C E (om_1 hZ) h.1 dX9_goesFree_113 rfl ?_
        replace h := h.2
        refine g_iload (n := 116) C dX9_goesFree_114 0 rfl rfl ?_
        refine g_isub (n := 117) C dX9_goesFree_116 rfl ?_
        refine g_iast (n := 118) C E (om_1 hZ) h.1 dX9_goesFree_117 rfl (fun M5 eM5 => ?_)
        replace h := h.2 M5 eM5
        refine g_aload_n (n := 119) (i := 0) C dX9_goesFree_118 rfl 2 rfl rfl ?_
        refine gf_X9_7 (n := 122) 1 C E (om_0 hZ) rfl dX9_goesFree_119 rfl ?_
        refine g_iload_n (n := 123) (i := 1) C dX9_goesFree_122 rfl 3 rfl rfl ?_
        refine g_bipush (n := 125) (44 : Int32) C dX9_goesFree_123 (by decide) rfl ?_
        refine g_iadd (n := 126) C dX9_goesFree_125 rfl ?_
        refine g_iload_n (n := 127) (i := 3) C dX9_goesFree_126 rfl 1 rfl rfl ?_
        refine g_iadd (n := 128) C dX9_goesFree_127 rfl ?_
        refine g_dup2 (n := 129) C dX9_goesFree_128 rfl rfl rfl ?_
        refine g_iald (n := 130) C E (om_1 hZ) h.1 dX9_goesFree_129 rfl ?_
        replace h := h.2
        refine g_iload (n := 132) C dX9_goesFree_130 0 rfl rfl ?_
        refine g_iadd (n := 133) C dX9_goesFree_132 rfl ?_
        refine g_iast (n := 134) C E (om_1 hZ) h.1 dX9_goesFree_133 rfl (fun M6 eM6 => ?_)
        replace h := h.2 M6 eM6
        exact g_vret C hr hQ dX9_goesFree_134 h
    · replace h := h.2 c
      refine g_aload_n (n := 22) (i := 0) C dX9_goesFree_21 rfl 0 rfl rfl ?_
      refine gf_X9_7 (n := 25) 1 C E (om_0 hZ) rfl dX9_goesFree_22 rfl ?_
      refine g_iload_n (n := 26) (i := 1) C dX9_goesFree_25 rfl 1 rfl rfl ?_
      refine g_bipush (n := 28) (44 : Int32) C dX9_goesFree_26 (by decide) rfl ?_
      refine g_iadd (n := 29) C dX9_goesFree_28 rfl ?_
      refine g_iload_n (n := 30) (i := 2) C dX9_goesFree_29 rfl 2 rfl rfl ?_
      refine g_iadd (n := 31) C dX9_goesFree_30 rfl ?_
      refine g_dup2 (n := 32) C dX9_goesFree_31 rfl rfl rfl ?_
      refine g_iald (n := 33) C E (om_1 hZ) h.1 dX9_goesFree_32 rfl ?_
      replace h := h.2
      refine g_aload_n (n := 34) (i := 0) C dX9_goesFree_33 rfl 0 rfl rfl ?_
      refine gf_X9_7 (n := 37) 1 C E (om_0 hZ) rfl dX9_goesFree_34 rfl ?_
      refine g_iload_n (n := 38) (i := 1) C dX9_goesFree_37 rfl 1 rfl rfl ?_
      refine g_bipush (n := 40) (37 : Int32) C dX9_goesFree_38 (by decide) rfl ?_
      refine g_iadd (n := 41) C dX9_goesFree_40 rfl ?_
      refine g_iload_n (n := 42) (i := 2) C dX9_goesFree_41 rfl 2 rfl rfl ?_
      refine g_iadd (n := 43) C dX9_goesFree_42 rfl ?_
      refine g_iald (n := 44) C E (om_1 hZ) h.1 dX9_goesFree_43 rfl ?_
      replace h := h.2
      refine g_iload_n (n := 45) (i := 3) C dX9_goesFree_44 rfl 3 rfl rfl ?_
      refine g_callSi (n := 48) C E (c_MD_has hZ _ (M 1 (((p1 + (37 : Int32)) + p2)).toNatClampNeg) x13_3 M _ h) ys_X9_has wd_1001 (by decide) (Nat.le_of_ble_eq_true rfl) dX9_goesFree_45 rfl rfl (fun r8 M7 h => ?_)
      refine g_if_eq (n := 51) (tgt := 60) C dX9_goesFree_48 (by decide) rfl (fun c => ?_) (fun c => ?_)
      · replace h := h.1 c
        refine g_iconst (n := 61) (0 : Int32) C dX9_goesFree_60 (by decide) rfl ?_
        refine g_iadd (n := 62) C dX9_goesFree_61 rfl ?_
        refine g_iast (n := 63) C E (om_1 hZ) h.1 dX9_goesFree_62 rfl (fun M9 eM9 => ?_)
        replace h := h.2 M9 eM9
        refine g_iinc (n := 66) (v := (1 : Int32)) C dX9_goesFree_63 3 rfl (by decide) (Nat.le_of_ble_eq_true rfl) rfl rfl (fun z10 ez10 => ?_)
        replace h := h z10 ez10
        refine g_goto (tgt := 13) C dX9_goesFree_66 (by decide) ?_
        exact g_sub [1, 2, 3, 0] rfl h
      · replace h := h.2 c
        refine g_aload_n (n := 52) (i := 0) C dX9_goesFree_51 rfl 0 rfl rfl ?_
        refine gf_X9_19 (n := 55) 4 C E (om_0 hZ) rfl dX9_goesFree_52 rfl ?_
        refine g_iload_n (n := 56) (i := 3) C dX9_goesFree_55 rfl 3 rfl rfl ?_
        refine g_iald (n := 57) C E (om_4 hZ) h.1 dX9_goesFree_56 rfl ?_
        replace h := h.2
        refine g_goto (tgt := 61) C dX9_goesFree_57 (by decide) ?_
        refine g_iadd (n := 62) C dX9_goesFree_61 rfl ?_
        refine g_iast (n := 63) C E (om_1 hZ) h.1 dX9_goesFree_62 rfl (fun M11 eM11 => ?_)
        replace h := h.2 M11 eM11
        refine g_iinc (n := 66) (v := (1 : Int32)) C dX9_goesFree_63 3 rfl (by decide) (Nat.le_of_ble_eq_true rfl) rfl rfl (fun z12 ez12 => ?_)
        replace h := h z12 ez12
        refine g_goto (tgt := 13) C dX9_goesFree_66 (by decide) ?_
        exact g_sub [1, 2, 3, 0] rfl h
  replace h := h (fun (M : Mem) (x13_3 : Int32) => GS Z X 13 [(0, .ref (zb Z + 0)), (1, .int p1), (2, .int p2), (3, .int x13_3)] [] M) s13
  unfold B_MD_goesFree_i at h
  show GS Z X 0 [(0, .ref (zb Z + 0)), (1, .int p1), (2, .int p2)] [] M
  refine g_aload_n (n := 1) (i := 0) C dX9_goesFree_0 rfl 0 rfl rfl ?_
  refine gf_X9_7 (n := 4) 1 C E (om_0 hZ) rfl dX9_goesFree_1 rfl ?_
  refine g_iload_n (n := 5) (i := 1) C dX9_goesFree_4 rfl 1 rfl rfl ?_
  refine g_iconst (n := 6) (2 : Int32) C dX9_goesFree_5 (by decide) rfl ?_
  refine g_iadd (n := 7) C dX9_goesFree_6 rfl ?_
  refine g_iload_n (n := 8) (i := 2) C dX9_goesFree_7 rfl 2 rfl rfl ?_
  refine g_iadd (n := 9) C dX9_goesFree_8 rfl ?_
  refine g_iconst (n := 10) (2 : Int32) C dX9_goesFree_9 (by decide) rfl ?_
  refine g_iast (n := 11) C E (om_1 hZ) h.1 dX9_goesFree_10 rfl (fun M1 eM1 => ?_)
  replace h := h.2 M1 eM1
  refine g_iconst (n := 12) (0 : Int32) C dX9_goesFree_11 (by decide) rfl ?_
  refine g_istore_n (n := 13) (i := 3) C dX9_goesFree_12 rfl (Nat.le_of_ble_eq_true rfl) rfl rfl (fun z2 ez2 => ?_)
  replace h := h z2 ez2
  exact g_sub [1, 2, 3, 0] rfl h
def B_MD_freesThose_i (p1 : Int32) (post : Mem → Prop) (R2 : Mem → Int32 → Prop) (M : Mem)  : Prop :=
  ∀ z1 : Int32, z1 = (0 : Int32) → (R2 M z1)
def B_MD_freesThose_2 (p1 : Int32) (post : Mem → Prop) (R2 : Mem → Int32 → Prop) (M : Mem) (x2_2 : Int32) : Prop :=
  ((((M 0 3) ≤ x2_2) → post M) ∧ ((¬ (M 0 3) ≤ x2_2) → vp_in ((p1 + (2 : Int32)) + x2_2) 612 ∧ ((((¬ (M 1 (((p1 + (2 : Int32)) + x2_2)).toNatClampNeg) = (1 : Int32)) → ∀ z2 : Int32, z2 = x2_2 + (1 : Int32) → (R2 M z2)) ∧ (((M 1 (((p1 + (2 : Int32)) + x2_2)).toNatClampNeg) = (1 : Int32)) → vp_in (p1 + (1 : Int32)) 612 ∧ (((((M 1 ((p1 + (1 : Int32))).toNatClampNeg) = x2_2) → ∀ z3 : Int32, z3 = x2_2 + (1 : Int32) → (R2 M z3)) ∧ ((¬ (M 1 ((p1 + (1 : Int32))).toNatClampNeg) = x2_2) → vp_in ((p1 + (23 : Int32)) + x2_2) 612 ∧ ((((¬ (M 1 (((p1 + (23 : Int32)) + x2_2)).toNatClampNeg) = 0) → ∀ z4 : Int32, z4 = x2_2 + (1 : Int32) → (R2 M z4)) ∧ (((M 1 (((p1 + (23 : Int32)) + x2_2)).toNatClampNeg) = 0) → P_MD_goesFree M p1 x2_2 (fun (M5 : Mem) => ∀ z6 : Int32, z6 = x2_2 + (1 : Int32) → (R2 M5 z6)))))))))))))
def P_MD_freesThose (M : Mem) (p1 : Int32) (post : Mem → Prop) : Prop :=
  ∀ (R2 : Mem → Int32 → Prop), (∀ (M : Mem) (x2_2 : Int32), B_MD_freesThose_2 p1 post R2 M x2_2 → R2 M x2_2) → B_MD_freesThose_i p1 post R2 M
set_option maxHeartbeats 4000000 in
set_option maxRecDepth 100000 in
theorem c_MD_freesThose {Z : ZT} (hZ : IsM Z) (l : Launch) (p1 : Int32) (M : Mem) (post : Mem → Prop) (h : P_MD_freesThose M p1 post) : CtV Z l yX9_freesThose cX9_freesThose 3 none 2 45 [.ref (zb Z + 0), .int p1] M post := by
  refine ctV (own := RX9) rfl (by decide) (Nat.le_of_ble_eq_true rfl) (fun X C E hr hQ => ?_)
  have s2 : ∀ (M : Mem) (x2_2 : Int32), B_MD_freesThose_2 p1 post (fun (M : Mem) (x2_2 : Int32) => GS Z X 2 [(0, .ref (zb Z + 0)), (1, .int p1), (2, .int x2_2)] [] M) M x2_2 → GS Z X 2 [(0, .ref (zb Z + 0)), (1, .int p1), (2, .int x2_2)] [] M := by
    intro M x2_2 h
    unfold B_MD_freesThose_2 at h
    refine g_iload_n (n := 3) (i := 2) C dX9_freesThose_2 rfl 2 rfl rfl ?_
    refine g_aload_n (n := 4) (i := 0) C dX9_freesThose_3 rfl 0 rfl rfl ?_
    refine gf_X9_69 (n := 7) C E (om_0 hZ) dX9_freesThose_4 rfl ?_
    refine g_icmp_ge (n := 10) (tgt := 62) C dX9_freesThose_7 (by decide) rfl (fun c => ?_) (fun c => ?_)
    · replace h := h.1 c
      exact g_vret C hr hQ dX9_freesThose_62 h
    · replace h := h.2 c
      refine g_aload_n (n := 11) (i := 0) C dX9_freesThose_10 rfl 0 rfl rfl ?_
      refine gf_X9_7 (n := 14) 1 C E (om_0 hZ) rfl dX9_freesThose_11 rfl ?_
      refine g_iload_n (n := 15) (i := 1) C dX9_freesThose_14 rfl 1 rfl rfl ?_
      refine g_iconst (n := 16) (2 : Int32) C dX9_freesThose_15 (by decide) rfl ?_
      refine g_iadd (n := 17) C dX9_freesThose_16 rfl ?_
      refine g_iload_n (n := 18) (i := 2) C dX9_freesThose_17 rfl 2 rfl rfl ?_
      refine g_iadd (n := 19) C dX9_freesThose_18 rfl ?_
      refine g_iald (n := 20) C E (om_1 hZ) h.1 dX9_freesThose_19 rfl ?_
      replace h := h.2
      refine g_iconst (n := 21) (1 : Int32) C dX9_freesThose_20 (by decide) rfl ?_
      refine g_icmp_ne (n := 24) (tgt := 56) C dX9_freesThose_21 (by decide) rfl (fun c => ?_) (fun c => ?_)
      · replace h := h.1 c
        refine g_iinc (n := 59) (v := (1 : Int32)) C dX9_freesThose_56 2 rfl (by decide) (Nat.le_of_ble_eq_true rfl) rfl rfl (fun z2 ez2 => ?_)
        replace h := h z2 ez2
        refine g_goto (tgt := 2) C dX9_freesThose_59 (by decide) ?_
        exact g_sub [1, 2, 0] rfl h
      · replace h := h.2 c
        refine g_aload_n (n := 25) (i := 0) C dX9_freesThose_24 rfl 0 rfl rfl ?_
        refine gf_X9_7 (n := 28) 1 C E (om_0 hZ) rfl dX9_freesThose_25 rfl ?_
        refine g_iload_n (n := 29) (i := 1) C dX9_freesThose_28 rfl 1 rfl rfl ?_
        refine g_iconst (n := 30) (1 : Int32) C dX9_freesThose_29 (by decide) rfl ?_
        refine g_iadd (n := 31) C dX9_freesThose_30 rfl ?_
        refine g_iald (n := 32) C E (om_1 hZ) h.1 dX9_freesThose_31 rfl ?_
        replace h := h.2
        refine g_iload_n (n := 33) (i := 2) C dX9_freesThose_32 rfl 2 rfl rfl ?_
        refine g_icmp_eq (n := 36) (tgt := 56) C dX9_freesThose_33 (by decide) rfl (fun c => ?_) (fun c => ?_)
        · replace h := h.1 c
          refine g_iinc (n := 59) (v := (1 : Int32)) C dX9_freesThose_56 2 rfl (by decide) (Nat.le_of_ble_eq_true rfl) rfl rfl (fun z3 ez3 => ?_)
          replace h := h z3 ez3
          refine g_goto (tgt := 2) C dX9_freesThose_59 (by decide) ?_
          exact g_sub [1, 2, 0] rfl h
        · replace h := h.2 c
          refine g_aload_n (n := 37) (i := 0) C dX9_freesThose_36 rfl 0 rfl rfl ?_
          refine gf_X9_7 (n := 40) 1 C E (om_0 hZ) rfl dX9_freesThose_37 rfl ?_
          refine g_iload_n (n := 41) (i := 1) C dX9_freesThose_40 rfl 1 rfl rfl ?_
          refine g_bipush (n := 43) (23 : Int32) C dX9_freesThose_41 (by decide) rfl ?_
          refine g_iadd (n := 44) C dX9_freesThose_43 rfl ?_
          refine g_iload_n (n := 45) (i := 2) C dX9_freesThose_44 rfl 2 rfl rfl ?_
          refine g_iadd (n := 46) C dX9_freesThose_45 rfl ?_
          refine g_iald (n := 47) C E (om_1 hZ) h.1 dX9_freesThose_46 rfl ?_
          replace h := h.2
          refine g_if_ne (n := 50) (tgt := 56) C dX9_freesThose_47 (by decide) rfl (fun c => ?_) (fun c => ?_)
          · replace h := h.1 c
            refine g_iinc (n := 59) (v := (1 : Int32)) C dX9_freesThose_56 2 rfl (by decide) (Nat.le_of_ble_eq_true rfl) rfl rfl (fun z4 ez4 => ?_)
            replace h := h z4 ez4
            refine g_goto (tgt := 2) C dX9_freesThose_59 (by decide) ?_
            exact g_sub [1, 2, 0] rfl h
          · replace h := h.2 c
            refine g_aload_n (n := 51) (i := 0) C dX9_freesThose_50 rfl 0 rfl rfl ?_
            refine g_iload_n (n := 52) (i := 1) C dX9_freesThose_51 rfl 1 rfl rfl ?_
            refine g_iload_n (n := 53) (i := 2) C dX9_freesThose_52 rfl 2 rfl rfl ?_
            refine g_callVv (n := 56) (kd := 9) C E (c_MD_goesFree hZ _ p1 x2_2 M _ h) yi_X9_goesFree wd_997 rfl (om_0 hZ) (by decide) (Nat.le_of_ble_eq_true rfl) dX9_freesThose_53 rfl rfl (fun M5 h => ?_)
            refine g_iinc (n := 59) (v := (1 : Int32)) C dX9_freesThose_56 2 rfl (by decide) (Nat.le_of_ble_eq_true rfl) rfl rfl (fun z6 ez6 => ?_)
            replace h := h z6 ez6
            refine g_goto (tgt := 2) C dX9_freesThose_59 (by decide) ?_
            exact g_sub [1, 2, 0] rfl h
  replace h := h (fun (M : Mem) (x2_2 : Int32) => GS Z X 2 [(0, .ref (zb Z + 0)), (1, .int p1), (2, .int x2_2)] [] M) s2
  unfold B_MD_freesThose_i at h
  show GS Z X 0 [(0, .ref (zb Z + 0)), (1, .int p1)] [] M
  refine g_iconst (n := 1) (0 : Int32) C dX9_freesThose_0 (by decide) rfl ?_
  refine g_istore_n (n := 2) (i := 2) C dX9_freesThose_1 rfl (Nat.le_of_ble_eq_true rfl) rfl rfl (fun z1 ez1 => ?_)
  replace h := h z1 ez1
  exact g_sub [1, 2, 0] rfl h
def B_MD_passes_i (p1 : Int32) (post : Mem → Prop) (R2 : Mem → Int32 → Prop) (R59 : Mem → Int32 → Prop) (M : Mem)  : Prop :=
  ∀ z1 : Int32, z1 = (0 : Int32) → (R2 M z1)
def B_MD_passes_2 (p1 : Int32) (post : Mem → Prop) (R2 : Mem → Int32 → Prop) (R59 : Mem → Int32 → Prop) (M : Mem) (x2_2 : Int32) : Prop :=
  ((((M 0 3) ≤ x2_2) → ∀ z2 : Int32, z2 = (0 : Int32) → (R59 M z2)) ∧ ((¬ (M 0 3) ≤ x2_2) → vp_in ((p1 + (2 : Int32)) + x2_2) 612 ∧ ((((¬ (M 1 (((p1 + (2 : Int32)) + x2_2)).toNatClampNeg) = 0) → ∀ z3 : Int32, z3 = x2_2 + (1 : Int32) → (R2 M z3)) ∧ (((M 1 (((p1 + (2 : Int32)) + x2_2)).toNatClampNeg) = 0) → vp_in ((p1 + (9 : Int32)) + x2_2) 612 ∧ (vp_in (p1 + (0 : Int32)) 612 ∧ ((((¬ (M 1 (((p1 + (9 : Int32)) + x2_2)).toNatClampNeg) = (M 1 ((p1 + (0 : Int32))).toNatClampNeg)) → ∀ z4 : Int32, z4 = x2_2 + (1 : Int32) → (R2 M z4)) ∧ (((M 1 (((p1 + (9 : Int32)) + x2_2)).toNatClampNeg) = (M 1 ((p1 + (0 : Int32))).toNatClampNeg)) → P_MD_comes M p1 x2_2 (fun (M5 : Mem) => ∀ z6 : Int32, z6 = x2_2 + (1 : Int32) → (R2 M5 z6)))))))))))
def B_MD_passes_59 (p1 : Int32) (post : Mem → Prop) (R2 : Mem → Int32 → Prop) (R59 : Mem → Int32 → Prop) (M : Mem) (x59_2 : Int32) : Prop :=
  ((((M 0 3) ≤ x59_2) → P_MD_freesThose M p1 (fun (M7 : Mem) => vp_in (p1 + (0 : Int32)) 612 ∧ (vp_in (p1 + (0 : Int32)) 612 ∧ (∀ M8 : Mem, M8 = mset M7 1 ((p1 + (0 : Int32))).toNatClampNeg ((M7 1 ((p1 + (0 : Int32))).toNatClampNeg) + (1 : Int32)) → post M8)))) ∧ ((¬ (M 0 3) ≤ x59_2) → vp_in ((p1 + (2 : Int32)) + x59_2) 612 ∧ ((((¬ (M 1 (((p1 + (2 : Int32)) + x59_2)).toNatClampNeg) = (1 : Int32)) → ∀ z9 : Int32, z9 = x59_2 + (1 : Int32) → (R59 M z9)) ∧ (((M 1 (((p1 + (2 : Int32)) + x59_2)).toNatClampNeg) = (1 : Int32)) → vp_in ((p1 + (23 : Int32)) + x59_2) 612 ∧ (vp_in x59_2 7 ∧ (((((M 1 (((p1 + (23 : Int32)) + x59_2)).toNatClampNeg) ≤ (M 5 (x59_2).toNatClampNeg)) → vp_in ((p1 + (23 : Int32)) + x59_2) 612 ∧ (∀ M10 : Mem, M10 = mset M 1 (((p1 + (23 : Int32)) + x59_2)).toNatClampNeg (0 : Int32) → ∀ z11 : Int32, z11 = x59_2 + (1 : Int32) → (R59 M10 z11))) ∧ ((¬ (M 1 (((p1 + (23 : Int32)) + x59_2)).toNatClampNeg) ≤ (M 5 (x59_2).toNatClampNeg)) → vp_in ((p1 + (23 : Int32)) + x59_2) 612 ∧ (vp_in x59_2 7 ∧ (vp_in ((p1 + (23 : Int32)) + x59_2) 612 ∧ (∀ M12 : Mem, M12 = mset M 1 (((p1 + (23 : Int32)) + x59_2)).toNatClampNeg ((M 1 (((p1 + (23 : Int32)) + x59_2)).toNatClampNeg) - (M 5 (x59_2).toNatClampNeg)) → ∀ z13 : Int32, z13 = x59_2 + (1 : Int32) → (R59 M12 z13)))))))))))))
def P_MD_passes (M : Mem) (p1 : Int32) (post : Mem → Prop) : Prop :=
  ∀ (R2 : Mem → Int32 → Prop) (R59 : Mem → Int32 → Prop), (∀ (M : Mem) (x2_2 : Int32), B_MD_passes_2 p1 post R2 R59 M x2_2 → R2 M x2_2) → (∀ (M : Mem) (x59_2 : Int32), B_MD_passes_59 p1 post R2 R59 M x59_2 → R59 M x59_2) → B_MD_passes_i p1 post R2 R59 M
set_option maxHeartbeats 4000000 in
set_option maxRecDepth 100000 in
theorem c_MD_passes {Z : ZT} (hZ : IsM Z) (l : Launch) (p1 : Int32) (M : Mem) (post : Mem → Prop) (h : P_MD_passes M p1 post) : CtV Z l yX9_passes cX9_passes 3 none 3 67 [.ref (zb Z + 0), .int p1] M post := by
  refine ctV (own := RX9) rfl (by decide) (Nat.le_of_ble_eq_true rfl) (fun X C E hr hQ => ?_)
  have s2 : ∀ (M : Mem) (x2_2 : Int32), B_MD_passes_2 p1 post (fun (M : Mem) (x2_2 : Int32) => GS Z X 2 [(0, .ref (zb Z + 0)), (1, .int p1), (2, .int x2_2)] [] M) (fun (M : Mem) (x59_2 : Int32) => GS Z X 59 [(0, .ref (zb Z + 0)), (1, .int p1), (2, .int x59_2)] [] M) M x2_2 → GS Z X 2 [(0, .ref (zb Z + 0)), (1, .int p1), (2, .int x2_2)] [] M := by
    intro M x2_2 h
    unfold B_MD_passes_2 at h
    refine g_iload_n (n := 3) (i := 2) C dX9_passes_2 rfl 2 rfl rfl ?_
    refine g_aload_n (n := 4) (i := 0) C dX9_passes_3 rfl 0 rfl rfl ?_
    refine gf_X9_69 (n := 7) C E (om_0 hZ) dX9_passes_4 rfl ?_
    refine g_icmp_ge (n := 10) (tgt := 57) C dX9_passes_7 (by decide) rfl (fun c => ?_) (fun c => ?_)
    · replace h := h.1 c
      refine g_iconst (n := 58) (0 : Int32) C dX9_passes_57 (by decide) rfl ?_
      refine g_istore_n (n := 59) (i := 2) C dX9_passes_58 rfl (Nat.le_of_ble_eq_true rfl) rfl rfl (fun z2 ez2 => ?_)
      replace h := h z2 ez2
      exact g_sub [1, 2, 0] rfl h
    · replace h := h.2 c
      refine g_aload_n (n := 11) (i := 0) C dX9_passes_10 rfl 0 rfl rfl ?_
      refine gf_X9_7 (n := 14) 1 C E (om_0 hZ) rfl dX9_passes_11 rfl ?_
      refine g_iload_n (n := 15) (i := 1) C dX9_passes_14 rfl 1 rfl rfl ?_
      refine g_iconst (n := 16) (2 : Int32) C dX9_passes_15 (by decide) rfl ?_
      refine g_iadd (n := 17) C dX9_passes_16 rfl ?_
      refine g_iload_n (n := 18) (i := 2) C dX9_passes_17 rfl 2 rfl rfl ?_
      refine g_iadd (n := 19) C dX9_passes_18 rfl ?_
      refine g_iald (n := 20) C E (om_1 hZ) h.1 dX9_passes_19 rfl ?_
      replace h := h.2
      refine g_if_ne (n := 23) (tgt := 51) C dX9_passes_20 (by decide) rfl (fun c => ?_) (fun c => ?_)
      · replace h := h.1 c
        refine g_iinc (n := 54) (v := (1 : Int32)) C dX9_passes_51 2 rfl (by decide) (Nat.le_of_ble_eq_true rfl) rfl rfl (fun z3 ez3 => ?_)
        replace h := h z3 ez3
        refine g_goto (tgt := 2) C dX9_passes_54 (by decide) ?_
        exact g_sub [1, 2, 0] rfl h
      · replace h := h.2 c
        refine g_aload_n (n := 24) (i := 0) C dX9_passes_23 rfl 0 rfl rfl ?_
        refine gf_X9_7 (n := 27) 1 C E (om_0 hZ) rfl dX9_passes_24 rfl ?_
        refine g_iload_n (n := 28) (i := 1) C dX9_passes_27 rfl 1 rfl rfl ?_
        refine g_bipush (n := 30) (9 : Int32) C dX9_passes_28 (by decide) rfl ?_
        refine g_iadd (n := 31) C dX9_passes_30 rfl ?_
        refine g_iload_n (n := 32) (i := 2) C dX9_passes_31 rfl 2 rfl rfl ?_
        refine g_iadd (n := 33) C dX9_passes_32 rfl ?_
        refine g_iald (n := 34) C E (om_1 hZ) h.1 dX9_passes_33 rfl ?_
        replace h := h.2
        refine g_aload_n (n := 35) (i := 0) C dX9_passes_34 rfl 0 rfl rfl ?_
        refine gf_X9_7 (n := 38) 1 C E (om_0 hZ) rfl dX9_passes_35 rfl ?_
        refine g_iload_n (n := 39) (i := 1) C dX9_passes_38 rfl 1 rfl rfl ?_
        refine g_iconst (n := 40) (0 : Int32) C dX9_passes_39 (by decide) rfl ?_
        refine g_iadd (n := 41) C dX9_passes_40 rfl ?_
        refine g_iald (n := 42) C E (om_1 hZ) h.1 dX9_passes_41 rfl ?_
        replace h := h.2
        refine g_icmp_ne (n := 45) (tgt := 51) C dX9_passes_42 (by decide) rfl (fun c => ?_) (fun c => ?_)
        · replace h := h.1 c
          refine g_iinc (n := 54) (v := (1 : Int32)) C dX9_passes_51 2 rfl (by decide) (Nat.le_of_ble_eq_true rfl) rfl rfl (fun z4 ez4 => ?_)
          replace h := h z4 ez4
          refine g_goto (tgt := 2) C dX9_passes_54 (by decide) ?_
          exact g_sub [1, 2, 0] rfl h
        · replace h := h.2 c
          refine g_aload_n (n := 46) (i := 0) C dX9_passes_45 rfl 0 rfl rfl ?_
          refine g_iload_n (n := 47) (i := 1) C dX9_passes_46 rfl 1 rfl rfl ?_
          refine g_iload_n (n := 48) (i := 2) C dX9_passes_47 rfl 2 rfl rfl ?_
          refine g_callVv (n := 51) (kd := 9) C E (c_MD_comes hZ _ p1 x2_2 M _ h) yi_X9_comes wd_985 rfl (om_0 hZ) (by decide) (Nat.le_of_ble_eq_true rfl) dX9_passes_48 rfl rfl (fun M5 h => ?_)
          refine g_iinc (n := 54) (v := (1 : Int32)) C dX9_passes_51 2 rfl (by decide) (Nat.le_of_ble_eq_true rfl) rfl rfl (fun z6 ez6 => ?_)
          replace h := h z6 ez6
          refine g_goto (tgt := 2) C dX9_passes_54 (by decide) ?_
          exact g_sub [1, 2, 0] rfl h
  have s59 : ∀ (M : Mem) (x59_2 : Int32), B_MD_passes_59 p1 post (fun (M : Mem) (x2_2 : Int32) => GS Z X 2 [(0, .ref (zb Z + 0)), (1, .int p1), (2, .int x2_2)] [] M) (fun (M : Mem) (x59_2 : Int32) => GS Z X 59 [(0, .ref (zb Z + 0)), (1, .int p1), (2, .int x59_2)] [] M) M x59_2 → GS Z X 59 [(0, .ref (zb Z + 0)), (1, .int p1), (2, .int x59_2)] [] M := by
    intro M x59_2 h
    unfold B_MD_passes_59 at h
    refine g_iload_n (n := 60) (i := 2) C dX9_passes_59 rfl 2 rfl rfl ?_
    refine g_aload_n (n := 61) (i := 0) C dX9_passes_60 rfl 0 rfl rfl ?_
    refine gf_X9_69 (n := 64) C E (om_0 hZ) dX9_passes_61 rfl ?_
    refine g_icmp_ge (n := 67) (tgt := 140) C dX9_passes_64 (by decide) rfl (fun c => ?_) (fun c => ?_)
    · replace h := h.1 c
      refine g_aload_n (n := 141) (i := 0) C dX9_passes_140 rfl 0 rfl rfl ?_
      refine g_iload_n (n := 142) (i := 1) C dX9_passes_141 rfl 1 rfl rfl ?_
      refine g_callVv (n := 145) (kd := 9) C E (c_MD_freesThose hZ _ p1 M _ h) yi_X9_freesThose wd_993 rfl (om_0 hZ) (by decide) (Nat.le_of_ble_eq_true rfl) dX9_passes_142 rfl rfl (fun M7 h => ?_)
      refine g_aload_n (n := 146) (i := 0) C dX9_passes_145 rfl 0 rfl rfl ?_
      refine gf_X9_7 (n := 149) 1 C E (om_0 hZ) rfl dX9_passes_146 rfl ?_
      refine g_iload_n (n := 150) (i := 1) C dX9_passes_149 rfl 1 rfl rfl ?_
      refine g_iconst (n := 151) (0 : Int32) C dX9_passes_150 (by decide) rfl ?_
      refine g_iadd (n := 152) C dX9_passes_151 rfl ?_
      refine g_dup2 (n := 153) C dX9_passes_152 rfl rfl rfl ?_
      refine g_iald (n := 154) C E (om_1 hZ) h.1 dX9_passes_153 rfl ?_
      replace h := h.2
      refine g_iconst (n := 155) (1 : Int32) C dX9_passes_154 (by decide) rfl ?_
      refine g_iadd (n := 156) C dX9_passes_155 rfl ?_
      refine g_iast (n := 157) C E (om_1 hZ) h.1 dX9_passes_156 rfl (fun M8 eM8 => ?_)
      replace h := h.2 M8 eM8
      exact g_vret C hr hQ dX9_passes_157 h
    · replace h := h.2 c
      refine g_aload_n (n := 68) (i := 0) C dX9_passes_67 rfl 0 rfl rfl ?_
      refine gf_X9_7 (n := 71) 1 C E (om_0 hZ) rfl dX9_passes_68 rfl ?_
      refine g_iload_n (n := 72) (i := 1) C dX9_passes_71 rfl 1 rfl rfl ?_
      refine g_iconst (n := 73) (2 : Int32) C dX9_passes_72 (by decide) rfl ?_
      refine g_iadd (n := 74) C dX9_passes_73 rfl ?_
      refine g_iload_n (n := 75) (i := 2) C dX9_passes_74 rfl 2 rfl rfl ?_
      refine g_iadd (n := 76) C dX9_passes_75 rfl ?_
      refine g_iald (n := 77) C E (om_1 hZ) h.1 dX9_passes_76 rfl ?_
      replace h := h.2
      refine g_iconst (n := 78) (1 : Int32) C dX9_passes_77 (by decide) rfl ?_
      refine g_icmp_ne (n := 81) (tgt := 134) C dX9_passes_78 (by decide) rfl (fun c => ?_) (fun c => ?_)
      · replace h := h.1 c
        refine g_iinc (n := 137) (v := (1 : Int32)) C dX9_passes_134 2 rfl (by decide) (Nat.le_of_ble_eq_true rfl) rfl rfl (fun z9 ez9 => ?_)
        replace h := h z9 ez9
        refine g_goto (tgt := 59) C dX9_passes_137 (by decide) ?_
        exact g_sub [1, 2, 0] rfl h
      · replace h := h.2 c
        refine g_aload_n (n := 82) (i := 0) C dX9_passes_81 rfl 0 rfl rfl ?_
        refine gf_X9_7 (n := 85) 1 C E (om_0 hZ) rfl dX9_passes_82 rfl ?_
        refine g_iload_n (n := 86) (i := 1) C dX9_passes_85 rfl 1 rfl rfl ?_
        refine g_bipush (n := 88) (23 : Int32) C dX9_passes_86 (by decide) rfl ?_
        refine g_iadd (n := 89) C dX9_passes_88 rfl ?_
        refine g_iload_n (n := 90) (i := 2) C dX9_passes_89 rfl 2 rfl rfl ?_
        refine g_iadd (n := 91) C dX9_passes_90 rfl ?_
        refine g_aload_n (n := 92) (i := 0) C dX9_passes_91 rfl 0 rfl rfl ?_
        refine gf_X9_7 (n := 95) 1 C E (om_0 hZ) rfl dX9_passes_92 rfl ?_
        refine g_iload_n (n := 96) (i := 1) C dX9_passes_95 rfl 1 rfl rfl ?_
        refine g_bipush (n := 98) (23 : Int32) C dX9_passes_96 (by decide) rfl ?_
        refine g_iadd (n := 99) C dX9_passes_98 rfl ?_
        refine g_iload_n (n := 100) (i := 2) C dX9_passes_99 rfl 2 rfl rfl ?_
        refine g_iadd (n := 101) C dX9_passes_100 rfl ?_
        refine g_iald (n := 102) C E (om_1 hZ) h.1 dX9_passes_101 rfl ?_
        replace h := h.2
        refine g_aload_n (n := 103) (i := 0) C dX9_passes_102 rfl 0 rfl rfl ?_
        refine gf_X9_22 (n := 106) 5 C E (om_0 hZ) rfl dX9_passes_103 rfl ?_
        refine g_iload_n (n := 107) (i := 2) C dX9_passes_106 rfl 2 rfl rfl ?_
        refine g_iald (n := 108) C E (om_5 hZ) h.1 dX9_passes_107 rfl ?_
        replace h := h.2
        refine g_icmp_le (n := 111) (tgt := 132) C dX9_passes_108 (by decide) rfl (fun c => ?_) (fun c => ?_)
        · replace h := h.1 c
          refine g_iconst (n := 133) (0 : Int32) C dX9_passes_132 (by decide) rfl ?_
          refine g_iast (n := 134) C E (om_1 hZ) h.1 dX9_passes_133 rfl (fun M10 eM10 => ?_)
          replace h := h.2 M10 eM10
          refine g_iinc (n := 137) (v := (1 : Int32)) C dX9_passes_134 2 rfl (by decide) (Nat.le_of_ble_eq_true rfl) rfl rfl (fun z11 ez11 => ?_)
          replace h := h z11 ez11
          refine g_goto (tgt := 59) C dX9_passes_137 (by decide) ?_
          exact g_sub [1, 2, 0] rfl h
        · replace h := h.2 c
          refine g_aload_n (n := 112) (i := 0) C dX9_passes_111 rfl 0 rfl rfl ?_
          refine gf_X9_7 (n := 115) 1 C E (om_0 hZ) rfl dX9_passes_112 rfl ?_
          refine g_iload_n (n := 116) (i := 1) C dX9_passes_115 rfl 1 rfl rfl ?_
          refine g_bipush (n := 118) (23 : Int32) C dX9_passes_116 (by decide) rfl ?_
          refine g_iadd (n := 119) C dX9_passes_118 rfl ?_
          refine g_iload_n (n := 120) (i := 2) C dX9_passes_119 rfl 2 rfl rfl ?_
          refine g_iadd (n := 121) C dX9_passes_120 rfl ?_
          refine g_iald (n := 122) C E (om_1 hZ) h.1 dX9_passes_121 rfl ?_
          replace h := h.2
          refine g_aload_n (n := 123) (i := 0) C dX9_passes_122 rfl 0 rfl rfl ?_
          refine gf_X9_22 (n := 126) 5 C E (om_0 hZ) rfl dX9_passes_123 rfl ?_
          refine g_iload_n (n := 127) (i := 2) C dX9_passes_126 rfl 2 rfl rfl ?_
          refine g_iald (n := 128) C E (om_5 hZ) h.1 dX9_passes_127 rfl ?_
          replace h := h.2
          refine g_isub (n := 129) C dX9_passes_128 rfl ?_
          refine g_goto (tgt := 133) C dX9_passes_129 (by decide) ?_
          refine g_iast (n := 134) C E (om_1 hZ) h.1 dX9_passes_133 rfl (fun M12 eM12 => ?_)
          replace h := h.2 M12 eM12
          refine g_iinc (n := 137) (v := (1 : Int32)) C dX9_passes_134 2 rfl (by decide) (Nat.le_of_ble_eq_true rfl) rfl rfl (fun z13 ez13 => ?_)
          replace h := h z13 ez13
          refine g_goto (tgt := 59) C dX9_passes_137 (by decide) ?_
          exact g_sub [1, 2, 0] rfl h
  replace h := h (fun (M : Mem) (x2_2 : Int32) => GS Z X 2 [(0, .ref (zb Z + 0)), (1, .int p1), (2, .int x2_2)] [] M) (fun (M : Mem) (x59_2 : Int32) => GS Z X 59 [(0, .ref (zb Z + 0)), (1, .int p1), (2, .int x59_2)] [] M) s2 s59
  unfold B_MD_passes_i at h
  show GS Z X 0 [(0, .ref (zb Z + 0)), (1, .int p1)] [] M
  refine g_iconst (n := 1) (0 : Int32) C dX9_passes_0 (by decide) rfl ?_
  refine g_istore_n (n := 2) (i := 2) C dX9_passes_1 rfl (Nat.le_of_ble_eq_true rfl) rfl rfl (fun z1 ez1 => ?_)
  replace h := h z1 ez1
  exact g_sub [1, 2, 0] rfl h
def B_MD_canBook_i (p1 : Int32) (p2 : Int32) (p3 : Int32) (post : Int32 → Mem → Prop)  (M : Mem)  : Prop :=
  vp_in ((p1 + (2 : Int32)) + p2) 612 ∧ ((((¬ (M 1 (((p1 + (2 : Int32)) + p2)).toNatClampNeg) = 0) → post (0 : Int32) M) ∧ (((M 1 (((p1 + (2 : Int32)) + p2)).toNatClampNeg) = 0) → vp_in (p1 + (0 : Int32)) 612 ∧ ((((p3 < (M 1 ((p1 + (0 : Int32))).toNatClampNeg)) → post (0 : Int32) M) ∧ ((¬ p3 < (M 1 ((p1 + (0 : Int32))).toNatClampNeg)) → post (1 : Int32) M))))))
def P_MD_canBook (M : Mem) (p1 : Int32) (p2 : Int32) (p3 : Int32) (post : Int32 → Mem → Prop) : Prop := B_MD_canBook_i p1 p2 p3 post M
set_option maxHeartbeats 4000000 in
set_option maxRecDepth 100000 in
theorem c_MD_canBook {Z : ZT} (hZ : IsM Z) (l : Launch) (p1 : Int32) (p2 : Int32) (p3 : Int32) (M : Mem) (post : Int32 → Mem → Prop) (h : P_MD_canBook M p1 p2 p3 post) : CtI Z l yX9_canBook cX9_canBook 4 (some .boolean) 0 0 [.ref (zb Z + 0), .int p1, .int p2, .int p3] M post := by
  refine ctI (own := RX9) rfl (by decide) (Nat.le_of_ble_eq_true rfl) (fun X C E hr hQ => ?_)
  unfold P_MD_canBook at h
  unfold B_MD_canBook_i at h
  show GS Z X 0 [(0, .ref (zb Z + 0)), (1, .int p1), (2, .int p2), (3, .int p3)] [] M
  refine g_aload_n (n := 1) (i := 0) C dX9_canBook_0 rfl 0 rfl rfl ?_
  refine gf_X9_7 (n := 4) 1 C E (om_0 hZ) rfl dX9_canBook_1 rfl ?_
  refine g_iload_n (n := 5) (i := 1) C dX9_canBook_4 rfl 1 rfl rfl ?_
  refine g_iconst (n := 6) (2 : Int32) C dX9_canBook_5 (by decide) rfl ?_
  refine g_iadd (n := 7) C dX9_canBook_6 rfl ?_
  refine g_iload_n (n := 8) (i := 2) C dX9_canBook_7 rfl 2 rfl rfl ?_
  refine g_iadd (n := 9) C dX9_canBook_8 rfl ?_
  refine g_iald (n := 10) C E (om_1 hZ) h.1 dX9_canBook_9 rfl ?_
  replace h := h.2
  refine g_if_ne (n := 13) (tgt := 29) C dX9_canBook_10 (by decide) rfl (fun c => ?_) (fun c => ?_)
  · replace h := h.1 c
    refine g_iconst (n := 30) (0 : Int32) C dX9_canBook_29 (by decide) rfl ?_
    exact g_zret C hr hQ dX9_canBook_30 rfl h
  · replace h := h.2 c
    refine g_iload_n (n := 14) (i := 3) C dX9_canBook_13 rfl 3 rfl rfl ?_
    refine g_aload_n (n := 15) (i := 0) C dX9_canBook_14 rfl 0 rfl rfl ?_
    refine gf_X9_7 (n := 18) 1 C E (om_0 hZ) rfl dX9_canBook_15 rfl ?_
    refine g_iload_n (n := 19) (i := 1) C dX9_canBook_18 rfl 1 rfl rfl ?_
    refine g_iconst (n := 20) (0 : Int32) C dX9_canBook_19 (by decide) rfl ?_
    refine g_iadd (n := 21) C dX9_canBook_20 rfl ?_
    refine g_iald (n := 22) C E (om_1 hZ) h.1 dX9_canBook_21 rfl ?_
    replace h := h.2
    refine g_icmp_lt (n := 25) (tgt := 29) C dX9_canBook_22 (by decide) rfl (fun c => ?_) (fun c => ?_)
    · replace h := h.1 c
      refine g_iconst (n := 30) (0 : Int32) C dX9_canBook_29 (by decide) rfl ?_
      exact g_zret C hr hQ dX9_canBook_30 rfl h
    · replace h := h.2 c
      refine g_iconst (n := 26) (1 : Int32) C dX9_canBook_25 (by decide) rfl ?_
      refine g_goto (tgt := 30) C dX9_canBook_26 (by decide) ?_
      exact g_zret C hr hQ dX9_canBook_30 rfl h
def B_MD_canChange_i (p1 : Int32) (p2 : Int32) (p3 : Int32) (post : Int32 → Mem → Prop)  (M : Mem)  : Prop :=
  vp_in ((p1 + (2 : Int32)) + p2) 612 ∧ ((((¬ (M 1 (((p1 + (2 : Int32)) + p2)).toNatClampNeg) = 0) → post (0 : Int32) M) ∧ (((M 1 (((p1 + (2 : Int32)) + p2)).toNatClampNeg) = 0) → vp_in ((p1 + (2 : Int32)) + p3) 612 ∧ ((((¬ (M 1 (((p1 + (2 : Int32)) + p3)).toNatClampNeg) = 0) → post (0 : Int32) M) ∧ (((M 1 (((p1 + (2 : Int32)) + p3)).toNatClampNeg) = 0) → (((p2 = p3) → post (0 : Int32) M) ∧ ((¬ p2 = p3) → post (1 : Int32) M))))))))
def P_MD_canChange (M : Mem) (p1 : Int32) (p2 : Int32) (p3 : Int32) (post : Int32 → Mem → Prop) : Prop := B_MD_canChange_i p1 p2 p3 post M
set_option maxHeartbeats 4000000 in
set_option maxRecDepth 100000 in
theorem c_MD_canChange {Z : ZT} (hZ : IsM Z) (l : Launch) (p1 : Int32) (p2 : Int32) (p3 : Int32) (M : Mem) (post : Int32 → Mem → Prop) (h : P_MD_canChange M p1 p2 p3 post) : CtI Z l yX9_canChange cX9_canChange 4 (some .boolean) 0 0 [.ref (zb Z + 0), .int p1, .int p2, .int p3] M post := by
  refine ctI (own := RX9) rfl (by decide) (Nat.le_of_ble_eq_true rfl) (fun X C E hr hQ => ?_)
  unfold P_MD_canChange at h
  unfold B_MD_canChange_i at h
  show GS Z X 0 [(0, .ref (zb Z + 0)), (1, .int p1), (2, .int p2), (3, .int p3)] [] M
  refine g_aload_n (n := 1) (i := 0) C dX9_canChange_0 rfl 0 rfl rfl ?_
  refine gf_X9_7 (n := 4) 1 C E (om_0 hZ) rfl dX9_canChange_1 rfl ?_
  refine g_iload_n (n := 5) (i := 1) C dX9_canChange_4 rfl 1 rfl rfl ?_
  refine g_iconst (n := 6) (2 : Int32) C dX9_canChange_5 (by decide) rfl ?_
  refine g_iadd (n := 7) C dX9_canChange_6 rfl ?_
  refine g_iload_n (n := 8) (i := 2) C dX9_canChange_7 rfl 2 rfl rfl ?_
  refine g_iadd (n := 9) C dX9_canChange_8 rfl ?_
  refine g_iald (n := 10) C E (om_1 hZ) h.1 dX9_canChange_9 rfl ?_
  replace h := h.2
  refine g_if_ne (n := 13) (tgt := 35) C dX9_canChange_10 (by decide) rfl (fun c => ?_) (fun c => ?_)
  · replace h := h.1 c
    refine g_iconst (n := 36) (0 : Int32) C dX9_canChange_35 (by decide) rfl ?_
    exact g_zret C hr hQ dX9_canChange_36 rfl h
  · replace h := h.2 c
    refine g_aload_n (n := 14) (i := 0) C dX9_canChange_13 rfl 0 rfl rfl ?_
    refine gf_X9_7 (n := 17) 1 C E (om_0 hZ) rfl dX9_canChange_14 rfl ?_
    refine g_iload_n (n := 18) (i := 1) C dX9_canChange_17 rfl 1 rfl rfl ?_
    refine g_iconst (n := 19) (2 : Int32) C dX9_canChange_18 (by decide) rfl ?_
    refine g_iadd (n := 20) C dX9_canChange_19 rfl ?_
    refine g_iload_n (n := 21) (i := 3) C dX9_canChange_20 rfl 3 rfl rfl ?_
    refine g_iadd (n := 22) C dX9_canChange_21 rfl ?_
    refine g_iald (n := 23) C E (om_1 hZ) h.1 dX9_canChange_22 rfl ?_
    replace h := h.2
    refine g_if_ne (n := 26) (tgt := 35) C dX9_canChange_23 (by decide) rfl (fun c => ?_) (fun c => ?_)
    · replace h := h.1 c
      refine g_iconst (n := 36) (0 : Int32) C dX9_canChange_35 (by decide) rfl ?_
      exact g_zret C hr hQ dX9_canChange_36 rfl h
    · replace h := h.2 c
      refine g_iload_n (n := 27) (i := 2) C dX9_canChange_26 rfl 2 rfl rfl ?_
      refine g_iload_n (n := 28) (i := 3) C dX9_canChange_27 rfl 3 rfl rfl ?_
      refine g_icmp_eq (n := 31) (tgt := 35) C dX9_canChange_28 (by decide) rfl (fun c => ?_) (fun c => ?_)
      · replace h := h.1 c
        refine g_iconst (n := 36) (0 : Int32) C dX9_canChange_35 (by decide) rfl ?_
        exact g_zret C hr hQ dX9_canChange_36 rfl h
      · replace h := h.2 c
        refine g_iconst (n := 32) (1 : Int32) C dX9_canChange_31 (by decide) rfl ?_
        refine g_goto (tgt := 36) C dX9_canChange_32 (by decide) ?_
        exact g_zret C hr hQ dX9_canChange_36 rfl h
def B_MD_changes_i (p1 : Int32) (p2 : Int32) (p3 : Int32) (post : Mem → Prop)  (M : Mem)  : Prop :=
  vp_in ((p1 + (16 : Int32)) + p2) 612 ∧ (∀ z1 : Int32, z1 = (M 1 (((p1 + (16 : Int32)) + p2)).toNatClampNeg) → vp_in ((p1 + (16 : Int32)) + p3) 612 ∧ (vp_in ((p1 + (16 : Int32)) + p2) 612 ∧ (∀ M2 : Mem, M2 = mset M 1 (((p1 + (16 : Int32)) + p2)).toNatClampNeg (M 1 (((p1 + (16 : Int32)) + p3)).toNatClampNeg) → vp_in ((p1 + (16 : Int32)) + p3) 612 ∧ (∀ M3 : Mem, M3 = mset M2 1 (((p1 + (16 : Int32)) + p3)).toNatClampNeg z1 → post M3))))
def P_MD_changes (M : Mem) (p1 : Int32) (p2 : Int32) (p3 : Int32) (post : Mem → Prop) : Prop := B_MD_changes_i p1 p2 p3 post M
set_option maxHeartbeats 4000000 in
set_option maxRecDepth 100000 in
theorem c_MD_changes {Z : ZT} (hZ : IsM Z) (l : Launch) (p1 : Int32) (p2 : Int32) (p3 : Int32) (M : Mem) (post : Mem → Prop) (h : P_MD_changes M p1 p2 p3 post) : CtV Z l yX9_changes cX9_changes 5 none 0 0 [.ref (zb Z + 0), .int p1, .int p2, .int p3] M post := by
  refine ctV (own := RX9) rfl (by decide) (Nat.le_of_ble_eq_true rfl) (fun X C E hr hQ => ?_)
  unfold P_MD_changes at h
  unfold B_MD_changes_i at h
  show GS Z X 0 [(0, .ref (zb Z + 0)), (1, .int p1), (2, .int p2), (3, .int p3)] [] M
  refine g_aload_n (n := 1) (i := 0) C dX9_changes_0 rfl 0 rfl rfl ?_
  refine gf_X9_7 (n := 4) 1 C E (om_0 hZ) rfl dX9_changes_1 rfl ?_
  refine g_iload_n (n := 5) (i := 1) C dX9_changes_4 rfl 1 rfl rfl ?_
  refine g_bipush (n := 7) (16 : Int32) C dX9_changes_5 (by decide) rfl ?_
  refine g_iadd (n := 8) C dX9_changes_7 rfl ?_
  refine g_iload_n (n := 9) (i := 2) C dX9_changes_8 rfl 2 rfl rfl ?_
  refine g_iadd (n := 10) C dX9_changes_9 rfl ?_
  refine g_iald (n := 11) C E (om_1 hZ) h.1 dX9_changes_10 rfl ?_
  replace h := h.2
  refine g_istore (n := 13) (i := 4) C dX9_changes_11 (Nat.le_of_ble_eq_true rfl) rfl rfl (fun z1 ez1 => ?_)
  replace h := h z1 ez1
  refine g_aload_n (n := 14) (i := 0) C dX9_changes_13 rfl 1 rfl rfl ?_
  refine gf_X9_7 (n := 17) 1 C E (om_0 hZ) rfl dX9_changes_14 rfl ?_
  refine g_iload_n (n := 18) (i := 1) C dX9_changes_17 rfl 2 rfl rfl ?_
  refine g_bipush (n := 20) (16 : Int32) C dX9_changes_18 (by decide) rfl ?_
  refine g_iadd (n := 21) C dX9_changes_20 rfl ?_
  refine g_iload_n (n := 22) (i := 2) C dX9_changes_21 rfl 3 rfl rfl ?_
  refine g_iadd (n := 23) C dX9_changes_22 rfl ?_
  refine g_aload_n (n := 24) (i := 0) C dX9_changes_23 rfl 1 rfl rfl ?_
  refine gf_X9_7 (n := 27) 1 C E (om_0 hZ) rfl dX9_changes_24 rfl ?_
  refine g_iload_n (n := 28) (i := 1) C dX9_changes_27 rfl 2 rfl rfl ?_
  refine g_bipush (n := 30) (16 : Int32) C dX9_changes_28 (by decide) rfl ?_
  refine g_iadd (n := 31) C dX9_changes_30 rfl ?_
  refine g_iload_n (n := 32) (i := 3) C dX9_changes_31 rfl 4 rfl rfl ?_
  refine g_iadd (n := 33) C dX9_changes_32 rfl ?_
  refine g_iald (n := 34) C E (om_1 hZ) h.1 dX9_changes_33 rfl ?_
  replace h := h.2
  refine g_iast (n := 35) C E (om_1 hZ) h.1 dX9_changes_34 rfl (fun M2 eM2 => ?_)
  replace h := h.2 M2 eM2
  refine g_aload_n (n := 36) (i := 0) C dX9_changes_35 rfl 1 rfl rfl ?_
  refine gf_X9_7 (n := 39) 1 C E (om_0 hZ) rfl dX9_changes_36 rfl ?_
  refine g_iload_n (n := 40) (i := 1) C dX9_changes_39 rfl 2 rfl rfl ?_
  refine g_bipush (n := 42) (16 : Int32) C dX9_changes_40 (by decide) rfl ?_
  refine g_iadd (n := 43) C dX9_changes_42 rfl ?_
  refine g_iload_n (n := 44) (i := 3) C dX9_changes_43 rfl 4 rfl rfl ?_
  refine g_iadd (n := 45) C dX9_changes_44 rfl ?_
  refine g_iload (n := 47) C dX9_changes_45 0 rfl rfl ?_
  refine g_iast (n := 48) C E (om_1 hZ) h.1 dX9_changes_47 rfl (fun M3 eM3 => ?_)
  replace h := h.2 M3 eM3
  exact g_vret C hr hQ dX9_changes_48 h
def B_MD_minds_i  (post : Mem → Prop) (R57 : Mem → Prop) (R11 : Mem → Int32 → Prop) (M : Mem)  : Prop :=
  (((¬ (M 0 1) = (8 : Int32)) → (R57 M)) ∧ (((M 0 1) = (8 : Int32)) → ∀ z1 : Int32, z1 = (0 : Int32) → (R11 M z1)))
def B_MD_minds_57  (post : Mem → Prop) (R57 : Mem → Prop) (R11 : Mem → Int32 → Prop) (M : Mem)  : Prop :=
  P_MD_copy M (0 : Int32) ((204 : Int32) + ((51 : Int32) * (M 0 1))) (fun (M2 : Mem) => ∀ M3 : Mem, M3 = mset M2 0 1 ((M2 0 1) + (1 : Int32)) → post M3)
def B_MD_minds_11  (post : Mem → Prop) (R57 : Mem → Prop) (R11 : Mem → Int32 → Prop) (M : Mem) (x11_1 : Int32) : Prop :=
  ((((357 : Int32) ≤ x11_1) → ∀ M4 : Mem, M4 = mset M 0 1 ((M 0 1) - (1 : Int32)) → (R57 M4)) ∧ ((¬ (357 : Int32) ≤ x11_1) → vp_in (((204 : Int32) + x11_1) + (51 : Int32)) 612 ∧ (vp_in ((204 : Int32) + x11_1) 612 ∧ (∀ M5 : Mem, M5 = mset M 1 (((204 : Int32) + x11_1)).toNatClampNeg (M 1 ((((204 : Int32) + x11_1) + (51 : Int32))).toNatClampNeg) → ∀ z6 : Int32, z6 = x11_1 + (1 : Int32) → (R11 M5 z6)))))
def P_MD_minds (M : Mem)  (post : Mem → Prop) : Prop :=
  ∀ (R57 : Mem → Prop) (R11 : Mem → Int32 → Prop), (∀ (M : Mem) , B_MD_minds_57  post R57 R11 M  → R57 M ) → (∀ (M : Mem) (x11_1 : Int32), B_MD_minds_11  post R57 R11 M x11_1 → R11 M x11_1) → B_MD_minds_i  post R57 R11 M
set_option maxHeartbeats 4000000 in
set_option maxRecDepth 100000 in
theorem c_MD_minds {Z : ZT} (hZ : IsM Z) (l : Launch)  (M : Mem) (post : Mem → Prop) (h : P_MD_minds M  post) : CtV Z l yX9_minds cX9_minds 2 none 1 23 [.ref (zb Z + 0)] M post := by
  refine ctV (own := RX9) rfl (by decide) (Nat.le_of_ble_eq_true rfl) (fun X C E hr hQ => ?_)
  have s57 : ∀ (M : Mem) , B_MD_minds_57  post (fun (M : Mem)  => GS Z X 57 [(0, .ref (zb Z + 0))] [] M) (fun (M : Mem) (x11_1 : Int32) => GS Z X 11 [(0, .ref (zb Z + 0)), (1, .int x11_1)] [] M) M  → GS Z X 57 [(0, .ref (zb Z + 0))] [] M := by
    intro M  h
    unfold B_MD_minds_57 at h
    refine g_aload_n (n := 58) (i := 0) C dX9_minds_57 rfl 0 rfl rfl ?_
    refine g_iconst (n := 59) (0 : Int32) C dX9_minds_58 (by decide) rfl ?_
    refine g_sipush (n := 62) (204 : Int32) C dX9_minds_59 (by decide) rfl ?_
    refine g_bipush (n := 64) (51 : Int32) C dX9_minds_62 (by decide) rfl ?_
    refine g_aload_n (n := 65) (i := 0) C dX9_minds_64 rfl 0 rfl rfl ?_
    refine gf_X9_83 (n := 68) C E (om_0 hZ) dX9_minds_65 rfl ?_
    refine g_imul (n := 69) C dX9_minds_68 rfl ?_
    refine g_iadd (n := 70) C dX9_minds_69 rfl ?_
    refine g_callVv (n := 73) (kd := 9) C E (c_MD_copy hZ _ (0 : Int32) ((204 : Int32) + ((51 : Int32) * (M 0 1))) M _ h) yi_X9_copy wd_977 rfl (om_0 hZ) (by decide) (Nat.le_of_ble_eq_true rfl) dX9_minds_70 rfl rfl (fun M2 h => ?_)
    refine g_aload_n (n := 74) (i := 0) C dX9_minds_73 rfl 0 rfl rfl ?_
    refine g_dup (n := 75) C dX9_minds_74 rfl rfl ?_
    refine gf_X9_83 (n := 78) C E (om_0 hZ) dX9_minds_75 rfl ?_
    refine g_iconst (n := 79) (1 : Int32) C dX9_minds_78 (by decide) rfl ?_
    refine g_iadd (n := 80) C dX9_minds_79 rfl ?_
    refine gp_X9_83 (n := 83) C E (om_0 hZ) dX9_minds_80 rfl (fun M3 eM3 => ?_)
    replace h := h M3 eM3
    exact g_vret C hr hQ dX9_minds_83 h
  have s11 : ∀ (M : Mem) (x11_1 : Int32), B_MD_minds_11  post (fun (M : Mem)  => GS Z X 57 [(0, .ref (zb Z + 0))] [] M) (fun (M : Mem) (x11_1 : Int32) => GS Z X 11 [(0, .ref (zb Z + 0)), (1, .int x11_1)] [] M) M x11_1 → GS Z X 11 [(0, .ref (zb Z + 0)), (1, .int x11_1)] [] M := by
    intro M x11_1 h
    unfold B_MD_minds_11 at h
    refine g_iload_n (n := 12) (i := 1) C dX9_minds_11 rfl 1 rfl rfl ?_
    refine g_sipush (n := 15) (357 : Int32) C dX9_minds_12 (by decide) rfl ?_
    refine g_icmp_ge (n := 18) (tgt := 47) C dX9_minds_15 (by decide) rfl (fun c => ?_) (fun c => ?_)
    · replace h := h.1 c
      refine g_aload_n (n := 48) (i := 0) C dX9_minds_47 rfl 0 rfl rfl ?_
      refine g_dup (n := 49) C dX9_minds_48 rfl rfl ?_
      refine gf_X9_83 (n := 52) C E (om_0 hZ) dX9_minds_49 rfl ?_
      refine g_iconst (n := 53) (1 : Int32) C dX9_minds_52 (by decide) rfl ?_
      refine g_isub (n := 54) C dX9_minds_53 rfl ?_
      refine gp_X9_83 (n := 57) C E (om_0 hZ) dX9_minds_54 rfl (fun M4 eM4 => ?_)
      replace h := h M4 eM4
      exact g_sub [0] rfl h
    · replace h := h.2 c
      refine g_aload_n (n := 19) (i := 0) C dX9_minds_18 rfl 0 rfl rfl ?_
      refine gf_X9_7 (n := 22) 1 C E (om_0 hZ) rfl dX9_minds_19 rfl ?_
      refine g_sipush (n := 25) (204 : Int32) C dX9_minds_22 (by decide) rfl ?_
      refine g_iload_n (n := 26) (i := 1) C dX9_minds_25 rfl 1 rfl rfl ?_
      refine g_iadd (n := 27) C dX9_minds_26 rfl ?_
      refine g_aload_n (n := 28) (i := 0) C dX9_minds_27 rfl 0 rfl rfl ?_
      refine gf_X9_7 (n := 31) 1 C E (om_0 hZ) rfl dX9_minds_28 rfl ?_
      refine g_sipush (n := 34) (204 : Int32) C dX9_minds_31 (by decide) rfl ?_
      refine g_iload_n (n := 35) (i := 1) C dX9_minds_34 rfl 1 rfl rfl ?_
      refine g_iadd (n := 36) C dX9_minds_35 rfl ?_
      refine g_bipush (n := 38) (51 : Int32) C dX9_minds_36 (by decide) rfl ?_
      refine g_iadd (n := 39) C dX9_minds_38 rfl ?_
      refine g_iald (n := 40) C E (om_1 hZ) h.1 dX9_minds_39 rfl ?_
      replace h := h.2
      refine g_iast (n := 41) C E (om_1 hZ) h.1 dX9_minds_40 rfl (fun M5 eM5 => ?_)
      replace h := h.2 M5 eM5
      refine g_iinc (n := 44) (v := (1 : Int32)) C dX9_minds_41 1 rfl (by decide) (Nat.le_of_ble_eq_true rfl) rfl rfl (fun z6 ez6 => ?_)
      replace h := h z6 ez6
      refine g_goto (tgt := 11) C dX9_minds_44 (by decide) ?_
      exact g_sub [1, 0] rfl h
  replace h := h (fun (M : Mem)  => GS Z X 57 [(0, .ref (zb Z + 0))] [] M) (fun (M : Mem) (x11_1 : Int32) => GS Z X 11 [(0, .ref (zb Z + 0)), (1, .int x11_1)] [] M) s57 s11
  unfold B_MD_minds_i at h
  show GS Z X 0 [(0, .ref (zb Z + 0))] [] M
  refine g_aload_n (n := 1) (i := 0) C dX9_minds_0 rfl 0 rfl rfl ?_
  refine gf_X9_83 (n := 4) C E (om_0 hZ) dX9_minds_1 rfl ?_
  refine g_bipush (n := 6) (8 : Int32) C dX9_minds_4 (by decide) rfl ?_
  refine g_icmp_ne (n := 9) (tgt := 57) C dX9_minds_6 (by decide) rfl (fun c => ?_) (fun c => ?_)
  · replace h := h.1 c
    exact g_sub [0] rfl h
  · replace h := h.2 c
    refine g_iconst (n := 10) (0 : Int32) C dX9_minds_9 (by decide) rfl ?_
    refine g_istore_n (n := 11) (i := 1) C dX9_minds_10 rfl (Nat.le_of_ble_eq_true rfl) rfl rfl (fun z1 ez1 => ?_)
    replace h := h z1 ez1
    exact g_sub [1, 0] rfl h
def B_MD_pass_i (p1 : Int32) (post : Int32 → Mem → Prop) (R20 : Mem → Int32 → Prop) (M : Mem)  : Prop :=
  P_MD_in M p1.toInt64 (1 : Int64) (24 : Int64) (fun (r2 : Int32) (M1 : Mem) => (((¬ r2 = 0) → P_MD_minds M1 (fun (M3 : Mem) => ∀ z4 : Int32, z4 = (0 : Int32) → (R20 M3 z4))) ∧ ((r2 = 0) → post (-1 : Int32) M1)))
def B_MD_pass_20 (p1 : Int32) (post : Int32 → Mem → Prop) (R20 : Mem → Int32 → Prop) (M : Mem) (x20_2 : Int32) : Prop :=
  (((p1 ≤ x20_2) → vp_in (0 : Int32) 612 ∧ (post (M 1 ((0 : Int32)).toNatClampNeg) M)) ∧ ((¬ p1 ≤ x20_2) → P_MD_passes M (0 : Int32) (fun (M5 : Mem) => ∀ z6 : Int32, z6 = x20_2 + (1 : Int32) → (R20 M5 z6))))
def P_MD_pass (M : Mem) (p1 : Int32) (post : Int32 → Mem → Prop) : Prop :=
  ∀ (R20 : Mem → Int32 → Prop), (∀ (M : Mem) (x20_2 : Int32), B_MD_pass_20 p1 post R20 M x20_2 → R20 M x20_2) → B_MD_pass_i p1 post R20 M
set_option maxHeartbeats 4000000 in
set_option maxRecDepth 100000 in
theorem c_MD_pass {Z : ZT} (hZ : IsM Z) (l : Launch) (p1 : Int32) (M : Mem) (post : Int32 → Mem → Prop) (h : P_MD_pass M p1 post) : CtI Z l yX9_pass cX9_pass 3 (some .int) 4 89 [.ref (zb Z + 0), .int p1] M post := by
  refine ctI (own := RX9) rfl (by decide) (Nat.le_of_ble_eq_true rfl) (fun X C E hr hQ => ?_)
  have s20 : ∀ (M : Mem) (x20_2 : Int32), B_MD_pass_20 p1 post (fun (M : Mem) (x20_2 : Int32) => GS Z X 20 [(0, .ref (zb Z + 0)), (1, .int p1), (2, .int x20_2)] [] M) M x20_2 → GS Z X 20 [(0, .ref (zb Z + 0)), (1, .int p1), (2, .int x20_2)] [] M := by
    intro M x20_2 h
    unfold B_MD_pass_20 at h
    refine g_iload_n (n := 21) (i := 2) C dX9_pass_20 rfl 2 rfl rfl ?_
    refine g_iload_n (n := 22) (i := 1) C dX9_pass_21 rfl 1 rfl rfl ?_
    refine g_icmp_ge (n := 25) (tgt := 36) C dX9_pass_22 (by decide) rfl (fun c => ?_) (fun c => ?_)
    · replace h := h.1 c
      refine g_aload_n (n := 37) (i := 0) C dX9_pass_36 rfl 0 rfl rfl ?_
      refine gf_X9_7 (n := 40) 1 C E (om_0 hZ) rfl dX9_pass_37 rfl ?_
      refine g_iconst (n := 41) (0 : Int32) C dX9_pass_40 (by decide) rfl ?_
      refine g_iald (n := 42) C E (om_1 hZ) h.1 dX9_pass_41 rfl ?_
      replace h := h.2
      exact g_iret C hr hQ dX9_pass_42 h
    · replace h := h.2 c
      refine g_aload_n (n := 26) (i := 0) C dX9_pass_25 rfl 0 rfl rfl ?_
      refine g_iconst (n := 27) (0 : Int32) C dX9_pass_26 (by decide) rfl ?_
      refine g_callVv (n := 30) (kd := 9) C E (c_MD_passes hZ _ (0 : Int32) M _ h) yi_X9_passes wd_981 rfl (om_0 hZ) (by decide) (Nat.le_of_ble_eq_true rfl) dX9_pass_27 rfl rfl (fun M5 h => ?_)
      refine g_iinc (n := 33) (v := (1 : Int32)) C dX9_pass_30 2 rfl (by decide) (Nat.le_of_ble_eq_true rfl) rfl rfl (fun z6 ez6 => ?_)
      replace h := h z6 ez6
      refine g_goto (tgt := 20) C dX9_pass_33 (by decide) ?_
      exact g_sub [1, 2, 0] rfl h
  replace h := h (fun (M : Mem) (x20_2 : Int32) => GS Z X 20 [(0, .ref (zb Z + 0)), (1, .int p1), (2, .int x20_2)] [] M) s20
  unfold B_MD_pass_i at h
  show GS Z X 0 [(0, .ref (zb Z + 0)), (1, .int p1)] [] M
  refine g_iload_n (n := 1) (i := 1) C dX9_pass_0 rfl 1 rfl rfl ?_
  refine g_i2l (n := 2) C dX9_pass_1 rfl ?_
  refine g_lconst (n := 3) (1 : Int64) C dX9_pass_2 (by decide) rfl ?_
  refine g_ldc2 (n := 6) (24 : Int64) C wd_972 dX9_pass_3 rfl ?_
  refine g_callSi (n := 9) C E (c_MD_in hZ _ p1.toInt64 (1 : Int64) (24 : Int64) M _ h) ys_X9_in wd_914 (by decide) (Nat.le_of_ble_eq_true rfl) dX9_pass_6 rfl rfl (fun r2 M1 h => ?_)
  refine g_if_ne (n := 12) (tgt := 14) C dX9_pass_9 (by decide) rfl (fun c => ?_) (fun c => ?_)
  · replace h := h.1 c
    refine g_aload_n (n := 15) (i := 0) C dX9_pass_14 rfl 0 rfl rfl ?_
    refine g_callVv (n := 18) (kd := 9) C E (c_MD_minds hZ _  M1 _ h) yi_X9_minds wd_973 rfl (om_0 hZ) (by decide) (Nat.le_of_ble_eq_true rfl) dX9_pass_15 rfl rfl (fun M3 h => ?_)
    refine g_iconst (n := 19) (0 : Int32) C dX9_pass_18 (by decide) rfl ?_
    refine g_istore_n (n := 20) (i := 2) C dX9_pass_19 rfl (Nat.le_of_ble_eq_true rfl) rfl rfl (fun z4 ez4 => ?_)
    replace h := h z4 ez4
    exact g_sub [1, 2, 0] rfl h
  · replace h := h.2 c
    refine g_iconst (n := 13) (-1 : Int32) C dX9_pass_12 (by decide) rfl ?_
    exact g_iret C hr hQ dX9_pass_13 h
def B_MD_book_i (p1 : Int32) (p2 : Int32) (post : Int32 → Mem → Prop)  (M : Mem)  : Prop :=
  P_MD_isGuest M p1 (fun (r2 : Int32) (M1 : Mem) => (((r2 = 0) → post (-1 : Int32) M1) ∧ ((¬ r2 = 0) → P_MD_in M1 p2.toInt64 (0 : Int64) (40 : Int64) (fun (r4 : Int32) (M3 : Mem) => (((¬ r4 = 0) → P_MD_canBook M3 (0 : Int32) p1 p2 (fun (r6 : Int32) (M5 : Mem) => (((¬ r6 = 0) → P_MD_minds M5 (fun (M7 : Mem) => vp_in ((9 : Int32) + p1) 612 ∧ (∀ z8 : Int32, z8 = (M7 1 (((9 : Int32) + p1)).toNatClampNeg) → vp_in ((9 : Int32) + p1) 612 ∧ (∀ M9 : Mem, M9 = mset M7 1 (((9 : Int32) + p1)).toNatClampNeg p2 → post z8 M9)))) ∧ ((r6 = 0) → post (-2 : Int32) M5)))) ∧ ((r4 = 0) → post (-1 : Int32) M3))))))
def P_MD_book (M : Mem) (p1 : Int32) (p2 : Int32) (post : Int32 → Mem → Prop) : Prop := B_MD_book_i p1 p2 post M
set_option maxHeartbeats 4000000 in
set_option maxRecDepth 100000 in
theorem c_MD_book {Z : ZT} (hZ : IsM Z) (l : Launch) (p1 : Int32) (p2 : Int32) (M : Mem) (post : Int32 → Mem → Prop) (h : P_MD_book M p1 p2 post) : CtI Z l yX9_book cX9_book 4 (some .int) 2 46 [.ref (zb Z + 0), .int p1, .int p2] M post := by
  refine ctI (own := RX9) rfl (by decide) (Nat.le_of_ble_eq_true rfl) (fun X C E hr hQ => ?_)
  unfold P_MD_book at h
  unfold B_MD_book_i at h
  show GS Z X 0 [(0, .ref (zb Z + 0)), (1, .int p1), (2, .int p2)] [] M
  refine g_aload_n (n := 1) (i := 0) C dX9_book_0 rfl 0 rfl rfl ?_
  refine g_iload_n (n := 2) (i := 1) C dX9_book_1 rfl 1 rfl rfl ?_
  refine g_callVi (n := 5) (kd := 9) C E (c_MD_isGuest hZ _ p1 M _ h) yi_X9_isGuest wd_959 rfl (om_0 hZ) (by decide) (Nat.le_of_ble_eq_true rfl) dX9_book_2 rfl rfl (fun r2 M1 h => ?_)
  refine g_if_eq (n := 8) (tgt := 20) C dX9_book_5 (by decide) rfl (fun c => ?_) (fun c => ?_)
  · replace h := h.1 c
    refine g_iconst (n := 21) (-1 : Int32) C dX9_book_20 (by decide) rfl ?_
    exact g_iret C hr hQ dX9_book_21 h
  · replace h := h.2 c
    refine g_iload_n (n := 9) (i := 2) C dX9_book_8 rfl 2 rfl rfl ?_
    refine g_i2l (n := 10) C dX9_book_9 rfl ?_
    refine g_lconst (n := 11) (0 : Int64) C dX9_book_10 (by decide) rfl ?_
    refine g_ldc2 (n := 14) (40 : Int64) C wd_1008 dX9_book_11 rfl ?_
    refine g_callSi (n := 17) C E (c_MD_in hZ _ p2.toInt64 (0 : Int64) (40 : Int64) M1 _ h) ys_X9_in wd_914 (by decide) (Nat.le_of_ble_eq_true rfl) dX9_book_14 rfl rfl (fun r4 M3 h => ?_)
    refine g_if_ne (n := 20) (tgt := 22) C dX9_book_17 (by decide) rfl (fun c => ?_) (fun c => ?_)
    · replace h := h.1 c
      refine g_aload_n (n := 23) (i := 0) C dX9_book_22 rfl 0 rfl rfl ?_
      refine g_iconst (n := 24) (0 : Int32) C dX9_book_23 (by decide) rfl ?_
      refine g_iload_n (n := 25) (i := 1) C dX9_book_24 rfl 1 rfl rfl ?_
      refine g_iload_n (n := 26) (i := 2) C dX9_book_25 rfl 2 rfl rfl ?_
      refine g_callVi (n := 29) (kd := 9) C E (c_MD_canBook hZ _ (0 : Int32) p1 p2 M3 _ h) yi_X9_canBook wd_1009 rfl (om_0 hZ) (by decide) (Nat.le_of_ble_eq_true rfl) dX9_book_26 rfl rfl (fun r6 M5 h => ?_)
      refine g_if_ne (n := 32) (tgt := 35) C dX9_book_29 (by decide) rfl (fun c => ?_) (fun c => ?_)
      · replace h := h.1 c
        refine g_aload_n (n := 36) (i := 0) C dX9_book_35 rfl 0 rfl rfl ?_
        refine g_callVv (n := 39) (kd := 9) C E (c_MD_minds hZ _  M5 _ h) yi_X9_minds wd_973 rfl (om_0 hZ) (by decide) (Nat.le_of_ble_eq_true rfl) dX9_book_36 rfl rfl (fun M7 h => ?_)
        refine g_aload_n (n := 40) (i := 0) C dX9_book_39 rfl 0 rfl rfl ?_
        refine gf_X9_7 (n := 43) 1 C E (om_0 hZ) rfl dX9_book_40 rfl ?_
        refine g_bipush (n := 45) (9 : Int32) C dX9_book_43 (by decide) rfl ?_
        refine g_iload_n (n := 46) (i := 1) C dX9_book_45 rfl 1 rfl rfl ?_
        refine g_iadd (n := 47) C dX9_book_46 rfl ?_
        refine g_iald (n := 48) C E (om_1 hZ) h.1 dX9_book_47 rfl ?_
        replace h := h.2
        refine g_istore_n (n := 49) (i := 3) C dX9_book_48 rfl (Nat.le_of_ble_eq_true rfl) rfl rfl (fun z8 ez8 => ?_)
        replace h := h z8 ez8
        refine g_aload_n (n := 50) (i := 0) C dX9_book_49 rfl 1 rfl rfl ?_
        refine gf_X9_7 (n := 53) 1 C E (om_0 hZ) rfl dX9_book_50 rfl ?_
        refine g_bipush (n := 55) (9 : Int32) C dX9_book_53 (by decide) rfl ?_
        refine g_iload_n (n := 56) (i := 1) C dX9_book_55 rfl 2 rfl rfl ?_
        refine g_iadd (n := 57) C dX9_book_56 rfl ?_
        refine g_iload_n (n := 58) (i := 2) C dX9_book_57 rfl 3 rfl rfl ?_
        refine g_iast (n := 59) C E (om_1 hZ) h.1 dX9_book_58 rfl (fun M9 eM9 => ?_)
        replace h := h.2 M9 eM9
        refine g_iload_n (n := 60) (i := 3) C dX9_book_59 rfl 0 rfl rfl ?_
        exact g_iret C hr hQ dX9_book_60 h
      · replace h := h.2 c
        refine g_bipush (n := 34) (-2 : Int32) C dX9_book_32 (by decide) rfl ?_
        exact g_iret C hr hQ dX9_book_34 h
    · replace h := h.2 c
      refine g_iconst (n := 21) (-1 : Int32) C dX9_book_20 (by decide) rfl ?_
      exact g_iret C hr hQ dX9_book_21 h
def B_MD_manyHow_i (p1 : Int32) (p2 : Int32) (post : Int32 → Mem → Prop) (R5 : Mem → Int32 → Int32 → Prop) (M : Mem)  : Prop :=
  ∀ z1 : Int32, z1 = (0 : Int32) → ∀ z2 : Int32, z2 = (0 : Int32) → (R5 M z1 z2)
def B_MD_manyHow_5 (p1 : Int32) (p2 : Int32) (post : Int32 → Mem → Prop) (R5 : Mem → Int32 → Int32 → Prop) (M : Mem) (x5_3 : Int32) (x5_4 : Int32) : Prop :=
  ((((M 0 3) ≤ x5_4) → post x5_3 M) ∧ ((¬ (M 0 3) ≤ x5_4) → vp_in ((p1 + (2 : Int32)) + x5_4) 612 ∧ ((((¬ (M 1 (((p1 + (2 : Int32)) + x5_4)).toNatClampNeg) = p2) → ∀ z3 : Int32, z3 = (x5_3 + (0 : Int32)) → ∀ z4 : Int32, z4 = x5_4 + (1 : Int32) → (R5 M z3 z4)) ∧ (((M 1 (((p1 + (2 : Int32)) + x5_4)).toNatClampNeg) = p2) → ∀ z5 : Int32, z5 = (x5_3 + (1 : Int32)) → ∀ z6 : Int32, z6 = x5_4 + (1 : Int32) → (R5 M z5 z6))))))
def P_MD_manyHow (M : Mem) (p1 : Int32) (p2 : Int32) (post : Int32 → Mem → Prop) : Prop :=
  ∀ (R5 : Mem → Int32 → Int32 → Prop), (∀ (M : Mem) (x5_3 : Int32) (x5_4 : Int32), B_MD_manyHow_5 p1 p2 post R5 M x5_3 x5_4 → R5 M x5_3 x5_4) → B_MD_manyHow_i p1 p2 post R5 M
set_option maxHeartbeats 4000000 in
set_option maxRecDepth 100000 in
theorem c_MD_manyHow {Z : ZT} (hZ : IsM Z) (l : Launch) (p1 : Int32) (p2 : Int32) (M : Mem) (post : Int32 → Mem → Prop) (h : P_MD_manyHow M p1 p2 post) : CtI Z l yX9_manyHow cX9_manyHow 5 (some .int) 0 0 [.ref (zb Z + 0), .int p1, .int p2] M post := by
  refine ctI (own := RX9) rfl (by decide) (Nat.le_of_ble_eq_true rfl) (fun X C E hr hQ => ?_)
  have s5 : ∀ (M : Mem) (x5_3 : Int32) (x5_4 : Int32), B_MD_manyHow_5 p1 p2 post (fun (M : Mem) (x5_3 : Int32) (x5_4 : Int32) => GS Z X 5 [(0, .ref (zb Z + 0)), (1, .int p1), (2, .int p2), (3, .int x5_3), (4, .int x5_4)] [] M) M x5_3 x5_4 → GS Z X 5 [(0, .ref (zb Z + 0)), (1, .int p1), (2, .int p2), (3, .int x5_3), (4, .int x5_4)] [] M := by
    intro M x5_3 x5_4 h
    unfold B_MD_manyHow_5 at h
    refine g_iload (n := 7) C dX9_manyHow_5 4 rfl rfl ?_
    refine g_aload_n (n := 8) (i := 0) C dX9_manyHow_7 rfl 0 rfl rfl ?_
    refine gf_X9_69 (n := 11) C E (om_0 hZ) dX9_manyHow_8 rfl ?_
    refine g_icmp_ge (n := 14) (tgt := 43) C dX9_manyHow_11 (by decide) rfl (fun c => ?_) (fun c => ?_)
    · replace h := h.1 c
      refine g_iload_n (n := 44) (i := 3) C dX9_manyHow_43 rfl 3 rfl rfl ?_
      exact g_iret C hr hQ dX9_manyHow_44 h
    · replace h := h.2 c
      refine g_iload_n (n := 15) (i := 3) C dX9_manyHow_14 rfl 3 rfl rfl ?_
      refine g_aload_n (n := 16) (i := 0) C dX9_manyHow_15 rfl 0 rfl rfl ?_
      refine gf_X9_7 (n := 19) 1 C E (om_0 hZ) rfl dX9_manyHow_16 rfl ?_
      refine g_iload_n (n := 20) (i := 1) C dX9_manyHow_19 rfl 1 rfl rfl ?_
      refine g_iconst (n := 21) (2 : Int32) C dX9_manyHow_20 (by decide) rfl ?_
      refine g_iadd (n := 22) C dX9_manyHow_21 rfl ?_
      refine g_iload (n := 24) C dX9_manyHow_22 4 rfl rfl ?_
      refine g_iadd (n := 25) C dX9_manyHow_24 rfl ?_
      refine g_iald (n := 26) C E (om_1 hZ) h.1 dX9_manyHow_25 rfl ?_
      replace h := h.2
      refine g_iload_n (n := 27) (i := 2) C dX9_manyHow_26 rfl 2 rfl rfl ?_
      refine g_icmp_ne (n := 30) (tgt := 34) C dX9_manyHow_27 (by decide) rfl (fun c => ?_) (fun c => ?_)
      · replace h := h.1 c
        refine g_iconst (n := 35) (0 : Int32) C dX9_manyHow_34 (by decide) rfl ?_
        refine g_iadd (n := 36) C dX9_manyHow_35 rfl ?_
        refine g_istore_n (n := 37) (i := 3) C dX9_manyHow_36 rfl (Nat.le_of_ble_eq_true rfl) rfl rfl (fun z3 ez3 => ?_)
        replace h := h z3 ez3
        refine g_iinc (n := 40) (v := (1 : Int32)) C dX9_manyHow_37 4 rfl (by decide) (Nat.le_of_ble_eq_true rfl) rfl rfl (fun z4 ez4 => ?_)
        replace h := h z4 ez4
        refine g_goto (tgt := 5) C dX9_manyHow_40 (by decide) ?_
        exact g_sub [2, 3, 4, 1, 0] rfl h
      · replace h := h.2 c
        refine g_iconst (n := 31) (1 : Int32) C dX9_manyHow_30 (by decide) rfl ?_
        refine g_goto (tgt := 35) C dX9_manyHow_31 (by decide) ?_
        refine g_iadd (n := 36) C dX9_manyHow_35 rfl ?_
        refine g_istore_n (n := 37) (i := 3) C dX9_manyHow_36 rfl (Nat.le_of_ble_eq_true rfl) rfl rfl (fun z5 ez5 => ?_)
        replace h := h z5 ez5
        refine g_iinc (n := 40) (v := (1 : Int32)) C dX9_manyHow_37 4 rfl (by decide) (Nat.le_of_ble_eq_true rfl) rfl rfl (fun z6 ez6 => ?_)
        replace h := h z6 ez6
        refine g_goto (tgt := 5) C dX9_manyHow_40 (by decide) ?_
        exact g_sub [2, 3, 4, 1, 0] rfl h
  replace h := h (fun (M : Mem) (x5_3 : Int32) (x5_4 : Int32) => GS Z X 5 [(0, .ref (zb Z + 0)), (1, .int p1), (2, .int p2), (3, .int x5_3), (4, .int x5_4)] [] M) s5
  unfold B_MD_manyHow_i at h
  show GS Z X 0 [(0, .ref (zb Z + 0)), (1, .int p1), (2, .int p2)] [] M
  refine g_iconst (n := 1) (0 : Int32) C dX9_manyHow_0 (by decide) rfl ?_
  refine g_istore_n (n := 2) (i := 3) C dX9_manyHow_1 rfl (Nat.le_of_ble_eq_true rfl) rfl rfl (fun z1 ez1 => ?_)
  replace h := h z1 ez1
  refine g_iconst (n := 3) (0 : Int32) C dX9_manyHow_2 (by decide) rfl ?_
  refine g_istore (n := 5) (i := 4) C dX9_manyHow_3 (Nat.le_of_ble_eq_true rfl) rfl rfl (fun z2 ez2 => ?_)
  replace h := h z2 ez2
  exact g_sub [2, 3, 4, 1, 0] rfl h
def B_MD_call_i (p1 : Int32) (post : Int32 → Mem → Prop)  (M : Mem)  : Prop :=
  P_MD_isGuest M p1 (fun (r2 : Int32) (M1 : Mem) => (((¬ r2 = 0) → vp_in ((2 : Int32) + p1) 612 ∧ (((((M1 1 (((2 : Int32) + p1)).toNatClampNeg) = 0) → P_MD_minds M1 (fun (M3 : Mem) => vp_in ((2 : Int32) + p1) 612 ∧ (∀ M4 : Mem, M4 = mset M3 1 (((2 : Int32) + p1)).toNatClampNeg (3 : Int32) → P_MD_manyHow M4 (0 : Int32) (0 : Int32) (fun (r6 : Int32) (M5 : Mem) => post r6 M5)))) ∧ ((¬ (M1 1 (((2 : Int32) + p1)).toNatClampNeg) = 0) → post (-2 : Int32) M1)))) ∧ ((r2 = 0) → post (-1 : Int32) M1)))
def P_MD_call (M : Mem) (p1 : Int32) (post : Int32 → Mem → Prop) : Prop := B_MD_call_i p1 post M
set_option maxHeartbeats 4000000 in
set_option maxRecDepth 100000 in
theorem c_MD_call {Z : ZT} (hZ : IsM Z) (l : Launch) (p1 : Int32) (M : Mem) (post : Int32 → Mem → Prop) (h : P_MD_call M p1 post) : CtI Z l yX9_call cX9_call 2 (some .int) 2 46 [.ref (zb Z + 0), .int p1] M post := by
  refine ctI (own := RX9) rfl (by decide) (Nat.le_of_ble_eq_true rfl) (fun X C E hr hQ => ?_)
  unfold P_MD_call at h
  unfold B_MD_call_i at h
  show GS Z X 0 [(0, .ref (zb Z + 0)), (1, .int p1)] [] M
  refine g_aload_n (n := 1) (i := 0) C dX9_call_0 rfl 0 rfl rfl ?_
  refine g_iload_n (n := 2) (i := 1) C dX9_call_1 rfl 1 rfl rfl ?_
  refine g_callVi (n := 5) (kd := 9) C E (c_MD_isGuest hZ _ p1 M _ h) yi_X9_isGuest wd_959 rfl (om_0 hZ) (by decide) (Nat.le_of_ble_eq_true rfl) dX9_call_2 rfl rfl (fun r2 M1 h => ?_)
  refine g_if_ne (n := 8) (tgt := 10) C dX9_call_5 (by decide) rfl (fun c => ?_) (fun c => ?_)
  · replace h := h.1 c
    refine g_aload_n (n := 11) (i := 0) C dX9_call_10 rfl 0 rfl rfl ?_
    refine gf_X9_7 (n := 14) 1 C E (om_0 hZ) rfl dX9_call_11 rfl ?_
    refine g_iconst (n := 15) (2 : Int32) C dX9_call_14 (by decide) rfl ?_
    refine g_iload_n (n := 16) (i := 1) C dX9_call_15 rfl 1 rfl rfl ?_
    refine g_iadd (n := 17) C dX9_call_16 rfl ?_
    refine g_iald (n := 18) C E (om_1 hZ) h.1 dX9_call_17 rfl ?_
    replace h := h.2
    refine g_if_eq (n := 21) (tgt := 24) C dX9_call_18 (by decide) rfl (fun c => ?_) (fun c => ?_)
    · replace h := h.1 c
      refine g_aload_n (n := 25) (i := 0) C dX9_call_24 rfl 0 rfl rfl ?_
      refine g_callVv (n := 28) (kd := 9) C E (c_MD_minds hZ _  M1 _ h) yi_X9_minds wd_973 rfl (om_0 hZ) (by decide) (Nat.le_of_ble_eq_true rfl) dX9_call_25 rfl rfl (fun M3 h => ?_)
      refine g_aload_n (n := 29) (i := 0) C dX9_call_28 rfl 0 rfl rfl ?_
      refine gf_X9_7 (n := 32) 1 C E (om_0 hZ) rfl dX9_call_29 rfl ?_
      refine g_iconst (n := 33) (2 : Int32) C dX9_call_32 (by decide) rfl ?_
      refine g_iload_n (n := 34) (i := 1) C dX9_call_33 rfl 1 rfl rfl ?_
      refine g_iadd (n := 35) C dX9_call_34 rfl ?_
      refine g_iconst (n := 36) (3 : Int32) C dX9_call_35 (by decide) rfl ?_
      refine g_iast (n := 37) C E (om_1 hZ) h.1 dX9_call_36 rfl (fun M4 eM4 => ?_)
      replace h := h.2 M4 eM4
      refine g_aload_n (n := 38) (i := 0) C dX9_call_37 rfl 0 rfl rfl ?_
      refine g_iconst (n := 39) (0 : Int32) C dX9_call_38 (by decide) rfl ?_
      refine g_iconst (n := 40) (0 : Int32) C dX9_call_39 (by decide) rfl ?_
      refine g_callVi (n := 43) (kd := 9) C E (c_MD_manyHow hZ _ (0 : Int32) (0 : Int32) M4 _ h) yi_X9_manyHow wd_1017 rfl (om_0 hZ) (by decide) (Nat.le_of_ble_eq_true rfl) dX9_call_40 rfl rfl (fun r6 M5 h => ?_)
      exact g_iret C hr hQ dX9_call_43 h
    · replace h := h.2 c
      refine g_bipush (n := 23) (-2 : Int32) C dX9_call_21 (by decide) rfl ?_
      exact g_iret C hr hQ dX9_call_23 h
  · replace h := h.2 c
    refine g_iconst (n := 9) (-1 : Int32) C dX9_call_8 (by decide) rfl ?_
    exact g_iret C hr hQ dX9_call_9 h
def B_MD_change_i (p1 : Int32) (p2 : Int32) (post : Int32 → Mem → Prop)  (M : Mem)  : Prop :=
  P_MD_isGuest M p1 (fun (r2 : Int32) (M1 : Mem) => (((r2 = 0) → post (-1 : Int32) M1) ∧ ((¬ r2 = 0) → P_MD_isGuest M1 p2 (fun (r4 : Int32) (M3 : Mem) => (((r4 = 0) → post (-1 : Int32) M3) ∧ ((¬ r4 = 0) → (((¬ p1 = p2) → P_MD_canChange M3 (0 : Int32) p1 p2 (fun (r6 : Int32) (M5 : Mem) => (((¬ r6 = 0) → P_MD_minds M5 (fun (M7 : Mem) => P_MD_changes M7 (0 : Int32) p1 p2 (fun (M8 : Mem) => vp_in ((16 : Int32) + p1) 612 ∧ (post (M8 1 (((16 : Int32) + p1)).toNatClampNeg) M8)))) ∧ ((r6 = 0) → post (-2 : Int32) M5)))) ∧ ((p1 = p2) → post (-1 : Int32) M3))))))))
def P_MD_change (M : Mem) (p1 : Int32) (p2 : Int32) (post : Int32 → Mem → Prop) : Prop := B_MD_change_i p1 p2 post M
set_option maxHeartbeats 4000000 in
set_option maxRecDepth 100000 in
theorem c_MD_change {Z : ZT} (hZ : IsM Z) (l : Launch) (p1 : Int32) (p2 : Int32) (M : Mem) (post : Int32 → Mem → Prop) (h : P_MD_change M p1 p2 post) : CtI Z l yX9_change cX9_change 3 (some .int) 2 46 [.ref (zb Z + 0), .int p1, .int p2] M post := by
  refine ctI (own := RX9) rfl (by decide) (Nat.le_of_ble_eq_true rfl) (fun X C E hr hQ => ?_)
  unfold P_MD_change at h
  unfold B_MD_change_i at h
  show GS Z X 0 [(0, .ref (zb Z + 0)), (1, .int p1), (2, .int p2)] [] M
  refine g_aload_n (n := 1) (i := 0) C dX9_change_0 rfl 0 rfl rfl ?_
  refine g_iload_n (n := 2) (i := 1) C dX9_change_1 rfl 1 rfl rfl ?_
  refine g_callVi (n := 5) (kd := 9) C E (c_MD_isGuest hZ _ p1 M _ h) yi_X9_isGuest wd_959 rfl (om_0 hZ) (by decide) (Nat.le_of_ble_eq_true rfl) dX9_change_2 rfl rfl (fun r2 M1 h => ?_)
  refine g_if_eq (n := 8) (tgt := 21) C dX9_change_5 (by decide) rfl (fun c => ?_) (fun c => ?_)
  · replace h := h.1 c
    refine g_iconst (n := 22) (-1 : Int32) C dX9_change_21 (by decide) rfl ?_
    exact g_iret C hr hQ dX9_change_22 h
  · replace h := h.2 c
    refine g_aload_n (n := 9) (i := 0) C dX9_change_8 rfl 0 rfl rfl ?_
    refine g_iload_n (n := 10) (i := 2) C dX9_change_9 rfl 2 rfl rfl ?_
    refine g_callVi (n := 13) (kd := 9) C E (c_MD_isGuest hZ _ p2 M1 _ h) yi_X9_isGuest wd_959 rfl (om_0 hZ) (by decide) (Nat.le_of_ble_eq_true rfl) dX9_change_10 rfl rfl (fun r4 M3 h => ?_)
    refine g_if_eq (n := 16) (tgt := 21) C dX9_change_13 (by decide) rfl (fun c => ?_) (fun c => ?_)
    · replace h := h.1 c
      refine g_iconst (n := 22) (-1 : Int32) C dX9_change_21 (by decide) rfl ?_
      exact g_iret C hr hQ dX9_change_22 h
    · replace h := h.2 c
      refine g_iload_n (n := 17) (i := 1) C dX9_change_16 rfl 1 rfl rfl ?_
      refine g_iload_n (n := 18) (i := 2) C dX9_change_17 rfl 2 rfl rfl ?_
      refine g_icmp_ne (n := 21) (tgt := 23) C dX9_change_18 (by decide) rfl (fun c => ?_) (fun c => ?_)
      · replace h := h.1 c
        refine g_aload_n (n := 24) (i := 0) C dX9_change_23 rfl 0 rfl rfl ?_
        refine g_iconst (n := 25) (0 : Int32) C dX9_change_24 (by decide) rfl ?_
        refine g_iload_n (n := 26) (i := 1) C dX9_change_25 rfl 1 rfl rfl ?_
        refine g_iload_n (n := 27) (i := 2) C dX9_change_26 rfl 2 rfl rfl ?_
        refine g_callVi (n := 30) (kd := 9) C E (c_MD_canChange hZ _ (0 : Int32) p1 p2 M3 _ h) yi_X9_canChange wd_1025 rfl (om_0 hZ) (by decide) (Nat.le_of_ble_eq_true rfl) dX9_change_27 rfl rfl (fun r6 M5 h => ?_)
        refine g_if_ne (n := 33) (tgt := 36) C dX9_change_30 (by decide) rfl (fun c => ?_) (fun c => ?_)
        · replace h := h.1 c
          refine g_aload_n (n := 37) (i := 0) C dX9_change_36 rfl 0 rfl rfl ?_
          refine g_callVv (n := 40) (kd := 9) C E (c_MD_minds hZ _  M5 _ h) yi_X9_minds wd_973 rfl (om_0 hZ) (by decide) (Nat.le_of_ble_eq_true rfl) dX9_change_37 rfl rfl (fun M7 h => ?_)
          refine g_aload_n (n := 41) (i := 0) C dX9_change_40 rfl 0 rfl rfl ?_
          refine g_iconst (n := 42) (0 : Int32) C dX9_change_41 (by decide) rfl ?_
          refine g_iload_n (n := 43) (i := 1) C dX9_change_42 rfl 1 rfl rfl ?_
          refine g_iload_n (n := 44) (i := 2) C dX9_change_43 rfl 2 rfl rfl ?_
          refine g_callVv (n := 47) (kd := 9) C E (c_MD_changes hZ _ (0 : Int32) p1 p2 M7 _ h) yi_X9_changes wd_1029 rfl (om_0 hZ) (by decide) (Nat.le_of_ble_eq_true rfl) dX9_change_44 rfl rfl (fun M8 h => ?_)
          refine g_aload_n (n := 48) (i := 0) C dX9_change_47 rfl 0 rfl rfl ?_
          refine gf_X9_7 (n := 51) 1 C E (om_0 hZ) rfl dX9_change_48 rfl ?_
          refine g_bipush (n := 53) (16 : Int32) C dX9_change_51 (by decide) rfl ?_
          refine g_iload_n (n := 54) (i := 1) C dX9_change_53 rfl 1 rfl rfl ?_
          refine g_iadd (n := 55) C dX9_change_54 rfl ?_
          refine g_iald (n := 56) C E (om_1 hZ) h.1 dX9_change_55 rfl ?_
          replace h := h.2
          exact g_iret C hr hQ dX9_change_56 h
        · replace h := h.2 c
          refine g_bipush (n := 35) (-2 : Int32) C dX9_change_33 (by decide) rfl ?_
          exact g_iret C hr hQ dX9_change_35 h
      · replace h := h.2 c
        refine g_iconst (n := 22) (-1 : Int32) C dX9_change_21 (by decide) rfl ?_
        exact g_iret C hr hQ dX9_change_22 h
def B_MD_undo_i  (post : Int32 → Mem → Prop)  (M : Mem)  : Prop :=
  (((¬ (M 0 1) = 0) → ∀ M1 : Mem, M1 = mset M 0 1 ((M 0 1) - (1 : Int32)) → P_MD_copy M1 ((204 : Int32) + ((51 : Int32) * (M1 0 1))) (0 : Int32) (fun (M2 : Mem) => post (M2 0 1) M2)) ∧ (((M 0 1) = 0) → post (-2 : Int32) M))
def P_MD_undo (M : Mem)  (post : Int32 → Mem → Prop) : Prop := B_MD_undo_i  post M
set_option maxHeartbeats 4000000 in
set_option maxRecDepth 100000 in
theorem c_MD_undo {Z : ZT} (hZ : IsM Z) (l : Launch)  (M : Mem) (post : Int32 → Mem → Prop) (h : P_MD_undo M  post) : CtI Z l yX9_undo cX9_undo 1 (some .int) 1 23 [.ref (zb Z + 0)] M post := by
  refine ctI (own := RX9) rfl (by decide) (Nat.le_of_ble_eq_true rfl) (fun X C E hr hQ => ?_)
  unfold P_MD_undo at h
  unfold B_MD_undo_i at h
  show GS Z X 0 [(0, .ref (zb Z + 0))] [] M
  refine g_aload_n (n := 1) (i := 0) C dX9_undo_0 rfl 0 rfl rfl ?_
  refine gf_X9_83 (n := 4) C E (om_0 hZ) dX9_undo_1 rfl ?_
  refine g_if_ne (n := 7) (tgt := 10) C dX9_undo_4 (by decide) rfl (fun c => ?_) (fun c => ?_)
  · replace h := h.1 c
    refine g_aload_n (n := 11) (i := 0) C dX9_undo_10 rfl 0 rfl rfl ?_
    refine g_dup (n := 12) C dX9_undo_11 rfl rfl ?_
    refine gf_X9_83 (n := 15) C E (om_0 hZ) dX9_undo_12 rfl ?_
    refine g_iconst (n := 16) (1 : Int32) C dX9_undo_15 (by decide) rfl ?_
    refine g_isub (n := 17) C dX9_undo_16 rfl ?_
    refine gp_X9_83 (n := 20) C E (om_0 hZ) dX9_undo_17 rfl (fun M1 eM1 => ?_)
    replace h := h M1 eM1
    refine g_aload_n (n := 21) (i := 0) C dX9_undo_20 rfl 0 rfl rfl ?_
    refine g_sipush (n := 24) (204 : Int32) C dX9_undo_21 (by decide) rfl ?_
    refine g_bipush (n := 26) (51 : Int32) C dX9_undo_24 (by decide) rfl ?_
    refine g_aload_n (n := 27) (i := 0) C dX9_undo_26 rfl 0 rfl rfl ?_
    refine gf_X9_83 (n := 30) C E (om_0 hZ) dX9_undo_27 rfl ?_
    refine g_imul (n := 31) C dX9_undo_30 rfl ?_
    refine g_iadd (n := 32) C dX9_undo_31 rfl ?_
    refine g_iconst (n := 33) (0 : Int32) C dX9_undo_32 (by decide) rfl ?_
    refine g_callVv (n := 36) (kd := 9) C E (c_MD_copy hZ _ ((204 : Int32) + ((51 : Int32) * (M1 0 1))) (0 : Int32) M1 _ h) yi_X9_copy wd_977 rfl (om_0 hZ) (by decide) (Nat.le_of_ble_eq_true rfl) dX9_undo_33 rfl rfl (fun M2 h => ?_)
    refine g_aload_n (n := 37) (i := 0) C dX9_undo_36 rfl 0 rfl rfl ?_
    refine gf_X9_83 (n := 40) C E (om_0 hZ) dX9_undo_37 rfl ?_
    exact g_iret C hr hQ dX9_undo_40 h
  · replace h := h.2 c
    refine g_bipush (n := 9) (-2 : Int32) C dX9_undo_7 (by decide) rfl ?_
    exact g_iret C hr hQ dX9_undo_9 h
def B_MD_tries_i  (post : Mem → Prop)  (M : Mem)  : Prop :=
  P_MD_copy M (0 : Int32) (51 : Int32) (fun (M1 : Mem) => post M1)
def P_MD_tries (M : Mem)  (post : Mem → Prop) : Prop := B_MD_tries_i  post M
set_option maxHeartbeats 4000000 in
set_option maxRecDepth 100000 in
theorem c_MD_tries {Z : ZT} (hZ : IsM Z) (l : Launch)  (M : Mem) (post : Mem → Prop) (h : P_MD_tries M  post) : CtV Z l yX9_tries cX9_tries 1 none 1 23 [.ref (zb Z + 0)] M post := by
  refine ctV (own := RX9) rfl (by decide) (Nat.le_of_ble_eq_true rfl) (fun X C E hr hQ => ?_)
  unfold P_MD_tries at h
  unfold B_MD_tries_i at h
  show GS Z X 0 [(0, .ref (zb Z + 0))] [] M
  refine g_aload_n (n := 1) (i := 0) C dX9_tries_0 rfl 0 rfl rfl ?_
  refine g_iconst (n := 2) (0 : Int32) C dX9_tries_1 (by decide) rfl ?_
  refine g_bipush (n := 4) (51 : Int32) C dX9_tries_2 (by decide) rfl ?_
  refine g_callVv (n := 7) (kd := 9) C E (c_MD_copy hZ _ (0 : Int32) (51 : Int32) M _ h) yi_X9_copy wd_977 rfl (om_0 hZ) (by decide) (Nat.le_of_ble_eq_true rfl) dX9_tries_4 rfl rfl (fun M1 h => ?_)
  exact g_vret C hr hQ dX9_tries_7 h
def B_MD_freed_i (p1 : Int32) (post : Int32 → Mem → Prop) (R16 : Mem → Int32 → Prop) (M : Mem)  : Prop :=
  P_MD_isGuest M p1 (fun (r2 : Int32) (M1 : Mem) => (((¬ r2 = 0) → P_MD_tries M1 (fun (M3 : Mem) => ∀ z4 : Int32, z4 = (0 : Int32) → (R16 M3 z4))) ∧ ((r2 = 0) → post (-1 : Int32) M1)))
def B_MD_freed_16 (p1 : Int32) (post : Int32 → Mem → Prop) (R16 : Mem → Int32 → Prop) (M : Mem) (x16_2 : Int32) : Prop :=
  ((((99 : Int32) < x16_2) → post (-4 : Int32) M) ∧ ((¬ (99 : Int32) < x16_2) → vp_in ((53 : Int32) + p1) 612 ∧ ((((¬ (M 1 (((53 : Int32) + p1)).toNatClampNeg) = (2 : Int32)) → P_MD_passes M (51 : Int32) (fun (M5 : Mem) => ∀ z6 : Int32, z6 = x16_2 + (1 : Int32) → (R16 M5 z6))) ∧ (((M 1 (((53 : Int32) + p1)).toNatClampNeg) = (2 : Int32)) → post x16_2 M)))))
def P_MD_freed (M : Mem) (p1 : Int32) (post : Int32 → Mem → Prop) : Prop :=
  ∀ (R16 : Mem → Int32 → Prop), (∀ (M : Mem) (x16_2 : Int32), B_MD_freed_16 p1 post R16 M x16_2 → R16 M x16_2) → B_MD_freed_i p1 post R16 M
set_option maxHeartbeats 4000000 in
set_option maxRecDepth 100000 in
theorem c_MD_freed {Z : ZT} (hZ : IsM Z) (l : Launch) (p1 : Int32) (M : Mem) (post : Int32 → Mem → Prop) (h : P_MD_freed M p1 post) : CtI Z l yX9_freed cX9_freed 3 (some .int) 4 89 [.ref (zb Z + 0), .int p1] M post := by
  refine ctI (own := RX9) rfl (by decide) (Nat.le_of_ble_eq_true rfl) (fun X C E hr hQ => ?_)
  have s16 : ∀ (M : Mem) (x16_2 : Int32), B_MD_freed_16 p1 post (fun (M : Mem) (x16_2 : Int32) => GS Z X 16 [(0, .ref (zb Z + 0)), (1, .int p1), (2, .int x16_2)] [] M) M x16_2 → GS Z X 16 [(0, .ref (zb Z + 0)), (1, .int p1), (2, .int x16_2)] [] M := by
    intro M x16_2 h
    unfold B_MD_freed_16 at h
    refine g_iload_n (n := 17) (i := 2) C dX9_freed_16 rfl 2 rfl rfl ?_
    refine g_bipush (n := 19) (99 : Int32) C dX9_freed_17 (by decide) rfl ?_
    refine g_icmp_gt (n := 22) (tgt := 49) C dX9_freed_19 (by decide) rfl (fun c => ?_) (fun c => ?_)
    · replace h := h.1 c
      refine g_bipush (n := 51) (-4 : Int32) C dX9_freed_49 (by decide) rfl ?_
      exact g_iret C hr hQ dX9_freed_51 h
    · replace h := h.2 c
      refine g_aload_n (n := 23) (i := 0) C dX9_freed_22 rfl 0 rfl rfl ?_
      refine gf_X9_7 (n := 26) 1 C E (om_0 hZ) rfl dX9_freed_23 rfl ?_
      refine g_bipush (n := 28) (53 : Int32) C dX9_freed_26 (by decide) rfl ?_
      refine g_iload_n (n := 29) (i := 1) C dX9_freed_28 rfl 1 rfl rfl ?_
      refine g_iadd (n := 30) C dX9_freed_29 rfl ?_
      refine g_iald (n := 31) C E (om_1 hZ) h.1 dX9_freed_30 rfl ?_
      replace h := h.2
      refine g_iconst (n := 32) (2 : Int32) C dX9_freed_31 (by decide) rfl ?_
      refine g_icmp_ne (n := 35) (tgt := 37) C dX9_freed_32 (by decide) rfl (fun c => ?_) (fun c => ?_)
      · replace h := h.1 c
        refine g_aload_n (n := 38) (i := 0) C dX9_freed_37 rfl 0 rfl rfl ?_
        refine g_bipush (n := 40) (51 : Int32) C dX9_freed_38 (by decide) rfl ?_
        refine g_callVv (n := 43) (kd := 9) C E (c_MD_passes hZ _ (51 : Int32) M _ h) yi_X9_passes wd_981 rfl (om_0 hZ) (by decide) (Nat.le_of_ble_eq_true rfl) dX9_freed_40 rfl rfl (fun M5 h => ?_)
        refine g_iinc (n := 46) (v := (1 : Int32)) C dX9_freed_43 2 rfl (by decide) (Nat.le_of_ble_eq_true rfl) rfl rfl (fun z6 ez6 => ?_)
        replace h := h z6 ez6
        refine g_goto (tgt := 16) C dX9_freed_46 (by decide) ?_
        exact g_sub [1, 2, 0] rfl h
      · replace h := h.2 c
        refine g_iload_n (n := 36) (i := 2) C dX9_freed_35 rfl 2 rfl rfl ?_
        exact g_iret C hr hQ dX9_freed_36 h
  replace h := h (fun (M : Mem) (x16_2 : Int32) => GS Z X 16 [(0, .ref (zb Z + 0)), (1, .int p1), (2, .int x16_2)] [] M) s16
  unfold B_MD_freed_i at h
  show GS Z X 0 [(0, .ref (zb Z + 0)), (1, .int p1)] [] M
  refine g_aload_n (n := 1) (i := 0) C dX9_freed_0 rfl 0 rfl rfl ?_
  refine g_iload_n (n := 2) (i := 1) C dX9_freed_1 rfl 1 rfl rfl ?_
  refine g_callVi (n := 5) (kd := 9) C E (c_MD_isGuest hZ _ p1 M _ h) yi_X9_isGuest wd_959 rfl (om_0 hZ) (by decide) (Nat.le_of_ble_eq_true rfl) dX9_freed_2 rfl rfl (fun r2 M1 h => ?_)
  refine g_if_ne (n := 8) (tgt := 10) C dX9_freed_5 (by decide) rfl (fun c => ?_) (fun c => ?_)
  · replace h := h.1 c
    refine g_aload_n (n := 11) (i := 0) C dX9_freed_10 rfl 0 rfl rfl ?_
    refine g_callVv (n := 14) (kd := 9) C E (c_MD_tries hZ _  M1 _ h) yi_X9_tries wd_1041 rfl (om_0 hZ) (by decide) (Nat.le_of_ble_eq_true rfl) dX9_freed_11 rfl rfl (fun M3 h => ?_)
    refine g_iconst (n := 15) (0 : Int32) C dX9_freed_14 (by decide) rfl ?_
    refine g_istore_n (n := 16) (i := 2) C dX9_freed_15 rfl (Nat.le_of_ble_eq_true rfl) rfl rfl (fun z4 ez4 => ?_)
    replace h := h z4 ez4
    exact g_sub [1, 2, 0] rfl h
  · replace h := h.2 c
    refine g_iconst (n := 9) (-1 : Int32) C dX9_freed_8 (by decide) rfl ?_
    exact g_iret C hr hQ dX9_freed_9 h
def B_MD_taskOf_i (p1 : Int32) (post : Int32 → Mem → Prop) (R0 : Mem → Prop) (R25 : Mem → Int32 → Int32 → Prop) (M : Mem)  : Prop :=
  (R0 M)
def B_MD_taskOf_0 (p1 : Int32) (post : Int32 → Mem → Prop) (R0 : Mem → Prop) (R25 : Mem → Int32 → Int32 → Prop) (M : Mem)  : Prop :=
  vp_in (51 : Int32) 612 ∧ (((((40 : Int32) < (M 1 ((51 : Int32)).toNatClampNeg)) → ∀ z1 : Int32, z1 = (0 : Int32) → ∀ z2 : Int32, z2 = (0 : Int32) → (R25 M z1 z2)) ∧ ((¬ (40 : Int32) < (M 1 ((51 : Int32)).toNatClampNeg)) → P_MD_passes M (51 : Int32) (fun (M3 : Mem) => (R0 M3)))))
def B_MD_taskOf_25 (p1 : Int32) (post : Int32 → Mem → Prop) (R0 : Mem → Prop) (R25 : Mem → Int32 → Int32 → Prop) (M : Mem) (x25_2 : Int32) (x25_3 : Int32) : Prop :=
  ((((M 0 3) ≤ x25_3) → post x25_2 M) ∧ ((¬ (M 0 3) ≤ x25_3) → vp_in ((88 : Int32) + p1) 612 ∧ (P_MD_has M (M 1 (((88 : Int32) + p1)).toNatClampNeg) x25_3 (fun (r5 : Int32) (M4 : Mem) => (((r5 = 0) → ∀ z6 : Int32, z6 = (x25_2 + (0 : Int32)) → ∀ z7 : Int32, z7 = x25_3 + (1 : Int32) → (R25 M4 z6 z7)) ∧ ((¬ r5 = 0) → P_MD_bringsIn M4 (51 : Int32) x25_3 (fun (r9 : Int32) (M8 : Mem) => ∀ z10 : Int32, z10 = (x25_2 + r9) → ∀ z11 : Int32, z11 = x25_3 + (1 : Int32) → (R25 M8 z10 z11))))))))
def P_MD_taskOf (M : Mem) (p1 : Int32) (post : Int32 → Mem → Prop) : Prop :=
  ∀ (R0 : Mem → Prop) (R25 : Mem → Int32 → Int32 → Prop), (∀ (M : Mem) , B_MD_taskOf_0 p1 post R0 R25 M  → R0 M ) → (∀ (M : Mem) (x25_2 : Int32) (x25_3 : Int32), B_MD_taskOf_25 p1 post R0 R25 M x25_2 x25_3 → R25 M x25_2 x25_3) → B_MD_taskOf_i p1 post R0 R25 M
set_option maxHeartbeats 4000000 in
set_option maxRecDepth 100000 in
theorem c_MD_taskOf {Z : ZT} (hZ : IsM Z) (l : Launch) (p1 : Int32) (M : Mem) (post : Int32 → Mem → Prop) (h : P_MD_taskOf M p1 post) : CtI Z l yX9_taskOf cX9_taskOf 4 (some .int) 4 89 [.ref (zb Z + 0), .int p1] M post := by
  refine ctI (own := RX9) rfl (by decide) (Nat.le_of_ble_eq_true rfl) (fun X C E hr hQ => ?_)
  have s0 : ∀ (M : Mem) , B_MD_taskOf_0 p1 post (fun (M : Mem)  => GS Z X 0 [(0, .ref (zb Z + 0)), (1, .int p1)] [] M) (fun (M : Mem) (x25_2 : Int32) (x25_3 : Int32) => GS Z X 25 [(0, .ref (zb Z + 0)), (1, .int p1), (2, .int x25_2), (3, .int x25_3)] [] M) M  → GS Z X 0 [(0, .ref (zb Z + 0)), (1, .int p1)] [] M := by
    intro M  h
    unfold B_MD_taskOf_0 at h
    refine g_aload_n (n := 1) (i := 0) C dX9_taskOf_0 rfl 0 rfl rfl ?_
    refine gf_X9_7 (n := 4) 1 C E (om_0 hZ) rfl dX9_taskOf_1 rfl ?_
    refine g_bipush (n := 6) (51 : Int32) C dX9_taskOf_4 (by decide) rfl ?_
    refine g_iald (n := 7) C E (om_1 hZ) h.1 dX9_taskOf_6 rfl ?_
    replace h := h.2
    refine g_bipush (n := 9) (40 : Int32) C dX9_taskOf_7 (by decide) rfl ?_
    refine g_icmp_gt (n := 12) (tgt := 21) C dX9_taskOf_9 (by decide) rfl (fun c => ?_) (fun c => ?_)
    · replace h := h.1 c
      refine g_iconst (n := 22) (0 : Int32) C dX9_taskOf_21 (by decide) rfl ?_
      refine g_istore_n (n := 23) (i := 2) C dX9_taskOf_22 rfl (Nat.le_of_ble_eq_true rfl) rfl rfl (fun z1 ez1 => ?_)
      replace h := h z1 ez1
      refine g_iconst (n := 24) (0 : Int32) C dX9_taskOf_23 (by decide) rfl ?_
      refine g_istore_n (n := 25) (i := 3) C dX9_taskOf_24 rfl (Nat.le_of_ble_eq_true rfl) rfl rfl (fun z2 ez2 => ?_)
      replace h := h z2 ez2
      exact g_sub [2, 3, 1, 0] rfl h
    · replace h := h.2 c
      refine g_aload_n (n := 13) (i := 0) C dX9_taskOf_12 rfl 0 rfl rfl ?_
      refine g_bipush (n := 15) (51 : Int32) C dX9_taskOf_13 (by decide) rfl ?_
      refine g_callVv (n := 18) (kd := 9) C E (c_MD_passes hZ _ (51 : Int32) M _ h) yi_X9_passes wd_981 rfl (om_0 hZ) (by decide) (Nat.le_of_ble_eq_true rfl) dX9_taskOf_15 rfl rfl (fun M3 h => ?_)
      refine g_goto (tgt := 0) C dX9_taskOf_18 (by decide) ?_
      exact g_sub [0, 1] rfl h
  have s25 : ∀ (M : Mem) (x25_2 : Int32) (x25_3 : Int32), B_MD_taskOf_25 p1 post (fun (M : Mem)  => GS Z X 0 [(0, .ref (zb Z + 0)), (1, .int p1)] [] M) (fun (M : Mem) (x25_2 : Int32) (x25_3 : Int32) => GS Z X 25 [(0, .ref (zb Z + 0)), (1, .int p1), (2, .int x25_2), (3, .int x25_3)] [] M) M x25_2 x25_3 → GS Z X 25 [(0, .ref (zb Z + 0)), (1, .int p1), (2, .int x25_2), (3, .int x25_3)] [] M := by
    intro M x25_2 x25_3 h
    unfold B_MD_taskOf_25 at h
    refine g_iload_n (n := 26) (i := 3) C dX9_taskOf_25 rfl 3 rfl rfl ?_
    refine g_aload_n (n := 27) (i := 0) C dX9_taskOf_26 rfl 0 rfl rfl ?_
    refine gf_X9_69 (n := 30) C E (om_0 hZ) dX9_taskOf_27 rfl ?_
    refine g_icmp_ge (n := 33) (tgt := 69) C dX9_taskOf_30 (by decide) rfl (fun c => ?_) (fun c => ?_)
    · replace h := h.1 c
      refine g_iload_n (n := 70) (i := 2) C dX9_taskOf_69 rfl 2 rfl rfl ?_
      exact g_iret C hr hQ dX9_taskOf_70 h
    · replace h := h.2 c
      refine g_iload_n (n := 34) (i := 2) C dX9_taskOf_33 rfl 2 rfl rfl ?_
      refine g_aload_n (n := 35) (i := 0) C dX9_taskOf_34 rfl 0 rfl rfl ?_
      refine gf_X9_7 (n := 38) 1 C E (om_0 hZ) rfl dX9_taskOf_35 rfl ?_
      refine g_bipush (n := 40) (88 : Int32) C dX9_taskOf_38 (by decide) rfl ?_
      refine g_iload_n (n := 41) (i := 1) C dX9_taskOf_40 rfl 1 rfl rfl ?_
      refine g_iadd (n := 42) C dX9_taskOf_41 rfl ?_
      refine g_iald (n := 43) C E (om_1 hZ) h.1 dX9_taskOf_42 rfl ?_
      replace h := h.2
      refine g_iload_n (n := 44) (i := 3) C dX9_taskOf_43 rfl 3 rfl rfl ?_
      refine g_callSi (n := 47) C E (c_MD_has hZ _ (M 1 (((88 : Int32) + p1)).toNatClampNeg) x25_3 M _ h) ys_X9_has wd_1001 (by decide) (Nat.le_of_ble_eq_true rfl) dX9_taskOf_44 rfl rfl (fun r5 M4 h => ?_)
      refine g_if_eq (n := 50) (tgt := 60) C dX9_taskOf_47 (by decide) rfl (fun c => ?_) (fun c => ?_)
      · replace h := h.1 c
        refine g_iconst (n := 61) (0 : Int32) C dX9_taskOf_60 (by decide) rfl ?_
        refine g_iadd (n := 62) C dX9_taskOf_61 rfl ?_
        refine g_istore_n (n := 63) (i := 2) C dX9_taskOf_62 rfl (Nat.le_of_ble_eq_true rfl) rfl rfl (fun z6 ez6 => ?_)
        replace h := h z6 ez6
        refine g_iinc (n := 66) (v := (1 : Int32)) C dX9_taskOf_63 3 rfl (by decide) (Nat.le_of_ble_eq_true rfl) rfl rfl (fun z7 ez7 => ?_)
        replace h := h z7 ez7
        refine g_goto (tgt := 25) C dX9_taskOf_66 (by decide) ?_
        exact g_sub [2, 3, 1, 0] rfl h
      · replace h := h.2 c
        refine g_aload_n (n := 51) (i := 0) C dX9_taskOf_50 rfl 0 rfl rfl ?_
        refine g_bipush (n := 53) (51 : Int32) C dX9_taskOf_51 (by decide) rfl ?_
        refine g_iload_n (n := 54) (i := 3) C dX9_taskOf_53 rfl 3 rfl rfl ?_
        refine g_callVi (n := 57) (kd := 9) C E (c_MD_bringsIn hZ _ (51 : Int32) x25_3 M4 _ h) yi_X9_bringsIn wd_989 rfl (om_0 hZ) (by decide) (Nat.le_of_ble_eq_true rfl) dX9_taskOf_54 rfl rfl (fun r9 M8 h => ?_)
        refine g_goto (tgt := 61) C dX9_taskOf_57 (by decide) ?_
        refine g_iadd (n := 62) C dX9_taskOf_61 rfl ?_
        refine g_istore_n (n := 63) (i := 2) C dX9_taskOf_62 rfl (Nat.le_of_ble_eq_true rfl) rfl rfl (fun z10 ez10 => ?_)
        replace h := h z10 ez10
        refine g_iinc (n := 66) (v := (1 : Int32)) C dX9_taskOf_63 3 rfl (by decide) (Nat.le_of_ble_eq_true rfl) rfl rfl (fun z11 ez11 => ?_)
        replace h := h z11 ez11
        refine g_goto (tgt := 25) C dX9_taskOf_66 (by decide) ?_
        exact g_sub [2, 3, 1, 0] rfl h
  replace h := h (fun (M : Mem)  => GS Z X 0 [(0, .ref (zb Z + 0)), (1, .int p1)] [] M) (fun (M : Mem) (x25_2 : Int32) (x25_3 : Int32) => GS Z X 25 [(0, .ref (zb Z + 0)), (1, .int p1), (2, .int x25_2), (3, .int x25_3)] [] M) s0 s25
  unfold B_MD_taskOf_i at h
  show GS Z X 0 [(0, .ref (zb Z + 0)), (1, .int p1)] [] M
  exact g_sub [0, 1] rfl h
def B_MD_task_i (p1 : Int32) (post : Int32 → Mem → Prop)  (M : Mem)  : Prop :=
  P_MD_isGuest M p1 (fun (r2 : Int32) (M1 : Mem) => (((¬ r2 = 0) → P_MD_tries M1 (fun (M3 : Mem) => P_MD_taskOf M3 p1 (fun (r5 : Int32) (M4 : Mem) => post r5 M4))) ∧ ((r2 = 0) → post (-1 : Int32) M1)))
def P_MD_task (M : Mem) (p1 : Int32) (post : Int32 → Mem → Prop) : Prop := B_MD_task_i p1 post M
set_option maxHeartbeats 4000000 in
set_option maxRecDepth 100000 in
theorem c_MD_task {Z : ZT} (hZ : IsM Z) (l : Launch) (p1 : Int32) (M : Mem) (post : Int32 → Mem → Prop) (h : P_MD_task M p1 post) : CtI Z l yX9_task cX9_task 2 (some .int) 5 112 [.ref (zb Z + 0), .int p1] M post := by
  refine ctI (own := RX9) rfl (by decide) (Nat.le_of_ble_eq_true rfl) (fun X C E hr hQ => ?_)
  unfold P_MD_task at h
  unfold B_MD_task_i at h
  show GS Z X 0 [(0, .ref (zb Z + 0)), (1, .int p1)] [] M
  refine g_aload_n (n := 1) (i := 0) C dX9_task_0 rfl 0 rfl rfl ?_
  refine g_iload_n (n := 2) (i := 1) C dX9_task_1 rfl 1 rfl rfl ?_
  refine g_callVi (n := 5) (kd := 9) C E (c_MD_isGuest hZ _ p1 M _ h) yi_X9_isGuest wd_959 rfl (om_0 hZ) (by decide) (Nat.le_of_ble_eq_true rfl) dX9_task_2 rfl rfl (fun r2 M1 h => ?_)
  refine g_if_ne (n := 8) (tgt := 10) C dX9_task_5 (by decide) rfl (fun c => ?_) (fun c => ?_)
  · replace h := h.1 c
    refine g_aload_n (n := 11) (i := 0) C dX9_task_10 rfl 0 rfl rfl ?_
    refine g_callVv (n := 14) (kd := 9) C E (c_MD_tries hZ _  M1 _ h) yi_X9_tries wd_1041 rfl (om_0 hZ) (by decide) (Nat.le_of_ble_eq_true rfl) dX9_task_11 rfl rfl (fun M3 h => ?_)
    refine g_aload_n (n := 15) (i := 0) C dX9_task_14 rfl 0 rfl rfl ?_
    refine g_iload_n (n := 16) (i := 1) C dX9_task_15 rfl 1 rfl rfl ?_
    refine g_callVi (n := 19) (kd := 9) C E (c_MD_taskOf hZ _ p1 M3 _ h) yi_X9_taskOf wd_1049 rfl (om_0 hZ) (by decide) (Nat.le_of_ble_eq_true rfl) dX9_task_16 rfl rfl (fun r5 M4 h => ?_)
    exact g_iret C hr hQ dX9_task_19 h
  · replace h := h.2 c
    refine g_iconst (n := 9) (-1 : Int32) C dX9_task_8 (by decide) rfl ?_
    exact g_iret C hr hQ dX9_task_9 h
def B_MD_early_i (p1 : Int32) (p2 : Int32) (post : Int32 → Mem → Prop) (R49 : Mem → Int32 → Int32 → Int32 → Prop) (R91 : Mem → Int32 → Int32 → Int32 → Int32 → Prop) (M : Mem)  : Prop :=
  P_MD_isGuest M p1 (fun (r2 : Int32) (M1 : Mem) => (((r2 = 0) → post (-1 : Int32) M1) ∧ ((¬ r2 = 0) → P_MD_in M1 p2.toInt64 (0 : Int64) (1 : Int64) (fun (r4 : Int32) (M3 : Mem) => (((¬ r4 = 0) → vp_in ((2 : Int32) + p1) 612 ∧ (((((M3 1 (((2 : Int32) + p1)).toNatClampNeg) = 0) → ∀ z5 : Int32, z5 = (-4 : Int32) → ∀ z6 : Int32, z6 = (1000000 : Int32) → vp_in (0 : Int32) 612 ∧ (∀ z7 : Int32, z7 = (M3 1 ((0 : Int32)).toNatClampNeg) → (R49 M3 z5 z6 z7))) ∧ ((¬ (M3 1 (((2 : Int32) + p1)).toNatClampNeg) = 0) → post (-2 : Int32) M3)))) ∧ ((r4 = 0) → post (-1 : Int32) M3))))))
def B_MD_early_49 (p1 : Int32) (p2 : Int32) (post : Int32 → Mem → Prop) (R49 : Mem → Int32 → Int32 → Int32 → Prop) (R91 : Mem → Int32 → Int32 → Int32 → Int32 → Prop) (M : Mem) (x49_3 : Int32) (x49_4 : Int32) (x49_5 : Int32) : Prop :=
  ((((40 : Int32) < x49_5) → (((¬ x49_3 = (-4 : Int32)) → (((¬ p2 = 0) → post x49_4 M) ∧ ((p2 = 0) → post x49_3 M))) ∧ ((x49_3 = (-4 : Int32)) → post (-4 : Int32) M))) ∧ ((¬ (40 : Int32) < x49_5) → P_MD_tries M (fun (M8 : Mem) => vp_in ((60 : Int32) + p1) 612 ∧ (∀ M9 : Mem, M9 = mset M8 1 (((60 : Int32) + p1)).toNatClampNeg x49_5 → P_MD_taskOf M9 p1 (fun (r11 : Int32) (M10 : Mem) => ∀ z12 : Int32, z12 = r11 → (((x49_4 ≤ z12) → (R91 M10 x49_4 x49_5 z12 x49_3)) ∧ ((¬ x49_4 ≤ z12) → (R91 M10 x49_4 x49_5 z12 x49_5))))))))
def B_MD_early_91 (p1 : Int32) (p2 : Int32) (post : Int32 → Mem → Prop) (R49 : Mem → Int32 → Int32 → Int32 → Prop) (R91 : Mem → Int32 → Int32 → Int32 → Int32 → Prop) (M : Mem) (x91_4 : Int32) (x91_5 : Int32) (x91_6 : Int32) (s91_0 : Int32) : Prop :=
  ∀ z13 : Int32, z13 = s91_0 → (((x91_4 ≤ x91_6) → ∀ z14 : Int32, z14 = x91_4 → ∀ z15 : Int32, z15 = x91_5 + (1 : Int32) → (R49 M z13 z14 z15)) ∧ ((¬ x91_4 ≤ x91_6) → ∀ z16 : Int32, z16 = x91_6 → ∀ z17 : Int32, z17 = x91_5 + (1 : Int32) → (R49 M z13 z16 z17)))
def P_MD_early (M : Mem) (p1 : Int32) (p2 : Int32) (post : Int32 → Mem → Prop) : Prop :=
  ∀ (R49 : Mem → Int32 → Int32 → Int32 → Prop) (R91 : Mem → Int32 → Int32 → Int32 → Int32 → Prop), (∀ (M : Mem) (x49_3 : Int32) (x49_4 : Int32) (x49_5 : Int32), B_MD_early_49 p1 p2 post R49 R91 M x49_3 x49_4 x49_5 → R49 M x49_3 x49_4 x49_5) → (∀ (M : Mem) (x91_4 : Int32) (x91_5 : Int32) (x91_6 : Int32) (s91_0 : Int32), B_MD_early_91 p1 p2 post R49 R91 M x91_4 x91_5 x91_6 s91_0 → R91 M x91_4 x91_5 x91_6 s91_0) → B_MD_early_i p1 p2 post R49 R91 M
set_option maxHeartbeats 4000000 in
set_option maxRecDepth 100000 in
theorem c_MD_early {Z : ZT} (hZ : IsM Z) (l : Launch) (p1 : Int32) (p2 : Int32) (M : Mem) (post : Int32 → Mem → Prop) (h : P_MD_early M p1 p2 post) : CtI Z l yX9_early cX9_early 7 (some .int) 5 112 [.ref (zb Z + 0), .int p1, .int p2] M post := by
  refine ctI (own := RX9) rfl (by decide) (Nat.le_of_ble_eq_true rfl) (fun X C E hr hQ => ?_)
  have s49 : ∀ (M : Mem) (x49_3 : Int32) (x49_4 : Int32) (x49_5 : Int32), B_MD_early_49 p1 p2 post (fun (M : Mem) (x49_3 : Int32) (x49_4 : Int32) (x49_5 : Int32) => GS Z X 49 [(0, .ref (zb Z + 0)), (1, .int p1), (2, .int p2), (3, .int x49_3), (4, .int x49_4), (5, .int x49_5)] [] M) (fun (M : Mem) (x91_4 : Int32) (x91_5 : Int32) (x91_6 : Int32) (s91_0 : Int32) => GS Z X 91 [(0, .ref (zb Z + 0)), (1, .int p1), (2, .int p2), (4, .int x91_4), (5, .int x91_5), (6, .int x91_6)] [.int s91_0] M) M x49_3 x49_4 x49_5 → GS Z X 49 [(0, .ref (zb Z + 0)), (1, .int p1), (2, .int p2), (3, .int x49_3), (4, .int x49_4), (5, .int x49_5)] [] M := by
    intro M x49_3 x49_4 x49_5 h
    unfold B_MD_early_49 at h
    refine g_iload (n := 51) C dX9_early_49 5 rfl rfl ?_
    refine g_bipush (n := 53) (40 : Int32) C dX9_early_51 (by decide) rfl ?_
    refine g_icmp_gt (n := 56) (tgt := 114) C dX9_early_53 (by decide) rfl (fun c => ?_) (fun c => ?_)
    · replace h := h.1 c
      refine g_iload_n (n := 115) (i := 3) C dX9_early_114 rfl 3 rfl rfl ?_
      refine g_bipush (n := 117) (-4 : Int32) C dX9_early_115 (by decide) rfl ?_
      refine g_icmp_ne (n := 120) (tgt := 125) C dX9_early_117 (by decide) rfl (fun c => ?_) (fun c => ?_)
      · replace h := h.1 c
        refine g_iload_n (n := 126) (i := 2) C dX9_early_125 rfl 2 rfl rfl ?_
        refine g_if_ne (n := 129) (tgt := 133) C dX9_early_126 (by decide) rfl (fun c => ?_) (fun c => ?_)
        · replace h := h.1 c
          refine g_iload (n := 135) C dX9_early_133 4 rfl rfl ?_
          exact g_iret C hr hQ dX9_early_135 h
        · replace h := h.2 c
          refine g_iload_n (n := 130) (i := 3) C dX9_early_129 rfl 3 rfl rfl ?_
          refine g_goto (tgt := 135) C dX9_early_130 (by decide) ?_
          exact g_iret C hr hQ dX9_early_135 h
      · replace h := h.2 c
        refine g_bipush (n := 122) (-4 : Int32) C dX9_early_120 (by decide) rfl ?_
        refine g_goto (tgt := 135) C dX9_early_122 (by decide) ?_
        exact g_iret C hr hQ dX9_early_135 h
    · replace h := h.2 c
      refine g_aload_n (n := 57) (i := 0) C dX9_early_56 rfl 0 rfl rfl ?_
      refine g_callVv (n := 60) (kd := 9) C E (c_MD_tries hZ _  M _ h) yi_X9_tries wd_1041 rfl (om_0 hZ) (by decide) (Nat.le_of_ble_eq_true rfl) dX9_early_57 rfl rfl (fun M8 h => ?_)
      refine g_aload_n (n := 61) (i := 0) C dX9_early_60 rfl 0 rfl rfl ?_
      refine gf_X9_7 (n := 64) 1 C E (om_0 hZ) rfl dX9_early_61 rfl ?_
      refine g_bipush (n := 66) (60 : Int32) C dX9_early_64 (by decide) rfl ?_
      refine g_iload_n (n := 67) (i := 1) C dX9_early_66 rfl 1 rfl rfl ?_
      refine g_iadd (n := 68) C dX9_early_67 rfl ?_
      refine g_iload (n := 70) C dX9_early_68 5 rfl rfl ?_
      refine g_iast (n := 71) C E (om_1 hZ) h.1 dX9_early_70 rfl (fun M9 eM9 => ?_)
      replace h := h.2 M9 eM9
      refine g_aload_n (n := 72) (i := 0) C dX9_early_71 rfl 0 rfl rfl ?_
      refine g_iload_n (n := 73) (i := 1) C dX9_early_72 rfl 1 rfl rfl ?_
      refine g_callVi (n := 76) (kd := 9) C E (c_MD_taskOf hZ _ p1 M9 _ h) yi_X9_taskOf wd_1049 rfl (om_0 hZ) (by decide) (Nat.le_of_ble_eq_true rfl) dX9_early_73 rfl rfl (fun r11 M10 h => ?_)
      refine g_istore (n := 78) (i := 6) C dX9_early_76 (Nat.le_of_ble_eq_true rfl) rfl rfl (fun z12 ez12 => ?_)
      replace h := h z12 ez12
      refine g_iload (n := 80) C dX9_early_78 0 rfl rfl ?_
      refine g_iload (n := 82) C dX9_early_80 5 rfl rfl ?_
      refine g_icmp_ge (n := 85) (tgt := 90) C dX9_early_82 (by decide) rfl (fun c => ?_) (fun c => ?_)
      · replace h := h.1 c
        refine g_iload_n (n := 91) (i := 3) C dX9_early_90 rfl 4 rfl rfl ?_
        exact g_sub [1, 2, 3, 5, 6, 0] rfl h
      · replace h := h.2 c
        refine g_iload (n := 87) C dX9_early_85 6 rfl rfl ?_
        refine g_goto (tgt := 91) C dX9_early_87 (by decide) ?_
        exact g_sub [1, 2, 3, 5, 6, 0] rfl h
  have s91 : ∀ (M : Mem) (x91_4 : Int32) (x91_5 : Int32) (x91_6 : Int32) (s91_0 : Int32), B_MD_early_91 p1 p2 post (fun (M : Mem) (x49_3 : Int32) (x49_4 : Int32) (x49_5 : Int32) => GS Z X 49 [(0, .ref (zb Z + 0)), (1, .int p1), (2, .int p2), (3, .int x49_3), (4, .int x49_4), (5, .int x49_5)] [] M) (fun (M : Mem) (x91_4 : Int32) (x91_5 : Int32) (x91_6 : Int32) (s91_0 : Int32) => GS Z X 91 [(0, .ref (zb Z + 0)), (1, .int p1), (2, .int p2), (4, .int x91_4), (5, .int x91_5), (6, .int x91_6)] [.int s91_0] M) M x91_4 x91_5 x91_6 s91_0 → GS Z X 91 [(0, .ref (zb Z + 0)), (1, .int p1), (2, .int p2), (4, .int x91_4), (5, .int x91_5), (6, .int x91_6)] [.int s91_0] M := by
    intro M x91_4 x91_5 x91_6 s91_0 h
    unfold B_MD_early_91 at h
    refine g_istore_n (n := 92) (i := 3) C dX9_early_91 rfl (Nat.le_of_ble_eq_true rfl) rfl rfl (fun z13 ez13 => ?_)
    replace h := h z13 ez13
    refine g_iload (n := 94) C dX9_early_92 6 rfl rfl ?_
    refine g_iload (n := 96) C dX9_early_94 4 rfl rfl ?_
    refine g_icmp_ge (n := 99) (tgt := 104) C dX9_early_96 (by decide) rfl (fun c => ?_) (fun c => ?_)
    · replace h := h.1 c
      refine g_iload (n := 106) C dX9_early_104 4 rfl rfl ?_
      refine g_istore (n := 108) (i := 4) C dX9_early_106 (Nat.le_of_ble_eq_true rfl) rfl rfl (fun z14 ez14 => ?_)
      replace h := h z14 ez14
      refine g_iinc (n := 111) (v := (1 : Int32)) C dX9_early_108 5 rfl (by decide) (Nat.le_of_ble_eq_true rfl) rfl rfl (fun z15 ez15 => ?_)
      replace h := h z15 ez15
      refine g_goto (tgt := 49) C dX9_early_111 (by decide) ?_
      exact g_sub [3, 4, 5, 2, 1, 0] rfl h
    · replace h := h.2 c
      refine g_iload (n := 101) C dX9_early_99 6 rfl rfl ?_
      refine g_goto (tgt := 106) C dX9_early_101 (by decide) ?_
      refine g_istore (n := 108) (i := 4) C dX9_early_106 (Nat.le_of_ble_eq_true rfl) rfl rfl (fun z16 ez16 => ?_)
      replace h := h z16 ez16
      refine g_iinc (n := 111) (v := (1 : Int32)) C dX9_early_108 5 rfl (by decide) (Nat.le_of_ble_eq_true rfl) rfl rfl (fun z17 ez17 => ?_)
      replace h := h z17 ez17
      refine g_goto (tgt := 49) C dX9_early_111 (by decide) ?_
      exact g_sub [3, 4, 5, 2, 1, 0] rfl h
  replace h := h (fun (M : Mem) (x49_3 : Int32) (x49_4 : Int32) (x49_5 : Int32) => GS Z X 49 [(0, .ref (zb Z + 0)), (1, .int p1), (2, .int p2), (3, .int x49_3), (4, .int x49_4), (5, .int x49_5)] [] M) (fun (M : Mem) (x91_4 : Int32) (x91_5 : Int32) (x91_6 : Int32) (s91_0 : Int32) => GS Z X 91 [(0, .ref (zb Z + 0)), (1, .int p1), (2, .int p2), (4, .int x91_4), (5, .int x91_5), (6, .int x91_6)] [.int s91_0] M) s49 s91
  unfold B_MD_early_i at h
  show GS Z X 0 [(0, .ref (zb Z + 0)), (1, .int p1), (2, .int p2)] [] M
  refine g_aload_n (n := 1) (i := 0) C dX9_early_0 rfl 0 rfl rfl ?_
  refine g_iload_n (n := 2) (i := 1) C dX9_early_1 rfl 1 rfl rfl ?_
  refine g_callVi (n := 5) (kd := 9) C E (c_MD_isGuest hZ _ p1 M _ h) yi_X9_isGuest wd_959 rfl (om_0 hZ) (by decide) (Nat.le_of_ble_eq_true rfl) dX9_early_2 rfl rfl (fun r2 M1 h => ?_)
  refine g_if_eq (n := 8) (tgt := 18) C dX9_early_5 (by decide) rfl (fun c => ?_) (fun c => ?_)
  · replace h := h.1 c
    refine g_iconst (n := 19) (-1 : Int32) C dX9_early_18 (by decide) rfl ?_
    exact g_iret C hr hQ dX9_early_19 h
  · replace h := h.2 c
    refine g_iload_n (n := 9) (i := 2) C dX9_early_8 rfl 2 rfl rfl ?_
    refine g_i2l (n := 10) C dX9_early_9 rfl ?_
    refine g_lconst (n := 11) (0 : Int64) C dX9_early_10 (by decide) rfl ?_
    refine g_lconst (n := 12) (1 : Int64) C dX9_early_11 (by decide) rfl ?_
    refine g_callSi (n := 15) C E (c_MD_in hZ _ p2.toInt64 (0 : Int64) (1 : Int64) M1 _ h) ys_X9_in wd_914 (by decide) (Nat.le_of_ble_eq_true rfl) dX9_early_12 rfl rfl (fun r4 M3 h => ?_)
    refine g_if_ne (n := 18) (tgt := 20) C dX9_early_15 (by decide) rfl (fun c => ?_) (fun c => ?_)
    · replace h := h.1 c
      refine g_aload_n (n := 21) (i := 0) C dX9_early_20 rfl 0 rfl rfl ?_
      refine gf_X9_7 (n := 24) 1 C E (om_0 hZ) rfl dX9_early_21 rfl ?_
      refine g_iconst (n := 25) (2 : Int32) C dX9_early_24 (by decide) rfl ?_
      refine g_iload_n (n := 26) (i := 1) C dX9_early_25 rfl 1 rfl rfl ?_
      refine g_iadd (n := 27) C dX9_early_26 rfl ?_
      refine g_iald (n := 28) C E (om_1 hZ) h.1 dX9_early_27 rfl ?_
      replace h := h.2
      refine g_if_eq (n := 31) (tgt := 34) C dX9_early_28 (by decide) rfl (fun c => ?_) (fun c => ?_)
      · replace h := h.1 c
        refine g_bipush (n := 36) (-4 : Int32) C dX9_early_34 (by decide) rfl ?_
        refine g_istore_n (n := 37) (i := 3) C dX9_early_36 rfl (Nat.le_of_ble_eq_true rfl) rfl rfl (fun z5 ez5 => ?_)
        replace h := h z5 ez5
        refine g_ldc (n := 39) (1000000 : Int32) C wd_1057 dX9_early_37 rfl ?_
        refine g_istore (n := 41) (i := 4) C dX9_early_39 (Nat.le_of_ble_eq_true rfl) rfl rfl (fun z6 ez6 => ?_)
        replace h := h z6 ez6
        refine g_aload_n (n := 42) (i := 0) C dX9_early_41 rfl 2 rfl rfl ?_
        refine gf_X9_7 (n := 45) 1 C E (om_0 hZ) rfl dX9_early_42 rfl ?_
        refine g_iconst (n := 46) (0 : Int32) C dX9_early_45 (by decide) rfl ?_
        refine g_iald (n := 47) C E (om_1 hZ) h.1 dX9_early_46 rfl ?_
        replace h := h.2
        refine g_istore (n := 49) (i := 5) C dX9_early_47 (Nat.le_of_ble_eq_true rfl) rfl rfl (fun z7 ez7 => ?_)
        replace h := h z7 ez7
        exact g_sub [3, 4, 5, 2, 1, 0] rfl h
      · replace h := h.2 c
        refine g_bipush (n := 33) (-2 : Int32) C dX9_early_31 (by decide) rfl ?_
        exact g_iret C hr hQ dX9_early_33 h
    · replace h := h.2 c
      refine g_iconst (n := 19) (-1 : Int32) C dX9_early_18 (by decide) rfl ?_
      exact g_iret C hr hQ dX9_early_19 h
def B_MD_isDone_i (p1 : Int32) (post : Int32 → Mem → Prop) (R4 : Mem → Int32 → Int32 → Prop) (M : Mem)  : Prop :=
  ∀ z1 : Int32, z1 = (1 : Int32) → ∀ z2 : Int32, z2 = (0 : Int32) → (R4 M z1 z2)
def B_MD_isDone_4 (p1 : Int32) (post : Int32 → Mem → Prop) (R4 : Mem → Int32 → Int32 → Prop) (M : Mem) (x4_2 : Int32) (x4_3 : Int32) : Prop :=
  ((((M 0 3) ≤ x4_3) → (narrow .boolean (.int x4_2) = .int x4_2 ∧ post x4_2 M)) ∧ ((¬ (M 0 3) ≤ x4_3) → (((x4_2 = 0) → ∀ z3 : Int32, z3 = (0 : Int32) → ∀ z4 : Int32, z4 = x4_3 + (1 : Int32) → (R4 M z3 z4)) ∧ ((¬ x4_2 = 0) → vp_in ((p1 + (2 : Int32)) + x4_3) 612 ∧ (((((M 1 (((p1 + (2 : Int32)) + x4_3)).toNatClampNeg) = 0) → ∀ z5 : Int32, z5 = (0 : Int32) → ∀ z6 : Int32, z6 = x4_3 + (1 : Int32) → (R4 M z5 z6)) ∧ ((¬ (M 1 (((p1 + (2 : Int32)) + x4_3)).toNatClampNeg) = 0) → vp_in ((p1 + (2 : Int32)) + x4_3) 612 ∧ ((((¬ (M 1 (((p1 + (2 : Int32)) + x4_3)).toNatClampNeg) = (1 : Int32)) → ∀ z7 : Int32, z7 = (1 : Int32) → ∀ z8 : Int32, z8 = x4_3 + (1 : Int32) → (R4 M z7 z8)) ∧ (((M 1 (((p1 + (2 : Int32)) + x4_3)).toNatClampNeg) = (1 : Int32)) → vp_in (p1 + (1 : Int32)) 612 ∧ ((((¬ (M 1 ((p1 + (1 : Int32))).toNatClampNeg) = x4_3) → ∀ z9 : Int32, z9 = (0 : Int32) → ∀ z10 : Int32, z10 = x4_3 + (1 : Int32) → (R4 M z9 z10)) ∧ (((M 1 ((p1 + (1 : Int32))).toNatClampNeg) = x4_3) → ∀ z11 : Int32, z11 = (1 : Int32) → ∀ z12 : Int32, z12 = x4_3 + (1 : Int32) → (R4 M z11 z12))))))))))))))
def P_MD_isDone (M : Mem) (p1 : Int32) (post : Int32 → Mem → Prop) : Prop :=
  ∀ (R4 : Mem → Int32 → Int32 → Prop), (∀ (M : Mem) (x4_2 : Int32) (x4_3 : Int32), B_MD_isDone_4 p1 post R4 M x4_2 x4_3 → R4 M x4_2 x4_3) → B_MD_isDone_i p1 post R4 M
set_option maxHeartbeats 4000000 in
set_option maxRecDepth 100000 in
theorem c_MD_isDone {Z : ZT} (hZ : IsM Z) (l : Launch) (p1 : Int32) (M : Mem) (post : Int32 → Mem → Prop) (h : P_MD_isDone M p1 post) : CtI Z l yX9_isDone cX9_isDone 4 (some .boolean) 0 0 [.ref (zb Z + 0), .int p1] M post := by
  refine ctI (own := RX9) rfl (by decide) (Nat.le_of_ble_eq_true rfl) (fun X C E hr hQ => ?_)
  have s4 : ∀ (M : Mem) (x4_2 : Int32) (x4_3 : Int32), B_MD_isDone_4 p1 post (fun (M : Mem) (x4_2 : Int32) (x4_3 : Int32) => GS Z X 4 [(0, .ref (zb Z + 0)), (1, .int p1), (2, .int x4_2), (3, .int x4_3)] [] M) M x4_2 x4_3 → GS Z X 4 [(0, .ref (zb Z + 0)), (1, .int p1), (2, .int x4_2), (3, .int x4_3)] [] M := by
    intro M x4_2 x4_3 h
    unfold B_MD_isDone_4 at h
    refine g_iload_n (n := 5) (i := 3) C dX9_isDone_4 rfl 3 rfl rfl ?_
    refine g_aload_n (n := 6) (i := 0) C dX9_isDone_5 rfl 0 rfl rfl ?_
    refine gf_X9_69 (n := 9) C E (om_0 hZ) dX9_isDone_6 rfl ?_
    refine g_icmp_ge (n := 12) (tgt := 67) C dX9_isDone_9 (by decide) rfl (fun c => ?_) (fun c => ?_)
    · replace h := h.1 c
      refine g_iload_n (n := 68) (i := 2) C dX9_isDone_67 rfl 2 rfl rfl ?_
      exact g_zret C hr hQ dX9_isDone_68 h.1 h.2
    · replace h := h.2 c
      refine g_iload_n (n := 13) (i := 2) C dX9_isDone_12 rfl 2 rfl rfl ?_
      refine g_if_eq (n := 16) (tgt := 59) C dX9_isDone_13 (by decide) rfl (fun c => ?_) (fun c => ?_)
      · replace h := h.1 c
        refine g_iconst (n := 60) (0 : Int32) C dX9_isDone_59 (by decide) rfl ?_
        refine g_istore_n (n := 61) (i := 2) C dX9_isDone_60 rfl (Nat.le_of_ble_eq_true rfl) rfl rfl (fun z3 ez3 => ?_)
        replace h := h z3 ez3
        refine g_iinc (n := 64) (v := (1 : Int32)) C dX9_isDone_61 3 rfl (by decide) (Nat.le_of_ble_eq_true rfl) rfl rfl (fun z4 ez4 => ?_)
        replace h := h z4 ez4
        refine g_goto (tgt := 4) C dX9_isDone_64 (by decide) ?_
        exact g_sub [2, 3, 1, 0] rfl h
      · replace h := h.2 c
        refine g_aload_n (n := 17) (i := 0) C dX9_isDone_16 rfl 0 rfl rfl ?_
        refine gf_X9_7 (n := 20) 1 C E (om_0 hZ) rfl dX9_isDone_17 rfl ?_
        refine g_iload_n (n := 21) (i := 1) C dX9_isDone_20 rfl 1 rfl rfl ?_
        refine g_iconst (n := 22) (2 : Int32) C dX9_isDone_21 (by decide) rfl ?_
        refine g_iadd (n := 23) C dX9_isDone_22 rfl ?_
        refine g_iload_n (n := 24) (i := 3) C dX9_isDone_23 rfl 3 rfl rfl ?_
        refine g_iadd (n := 25) C dX9_isDone_24 rfl ?_
        refine g_iald (n := 26) C E (om_1 hZ) h.1 dX9_isDone_25 rfl ?_
        replace h := h.2
        refine g_if_eq (n := 29) (tgt := 59) C dX9_isDone_26 (by decide) rfl (fun c => ?_) (fun c => ?_)
        · replace h := h.1 c
          refine g_iconst (n := 60) (0 : Int32) C dX9_isDone_59 (by decide) rfl ?_
          refine g_istore_n (n := 61) (i := 2) C dX9_isDone_60 rfl (Nat.le_of_ble_eq_true rfl) rfl rfl (fun z5 ez5 => ?_)
          replace h := h z5 ez5
          refine g_iinc (n := 64) (v := (1 : Int32)) C dX9_isDone_61 3 rfl (by decide) (Nat.le_of_ble_eq_true rfl) rfl rfl (fun z6 ez6 => ?_)
          replace h := h z6 ez6
          refine g_goto (tgt := 4) C dX9_isDone_64 (by decide) ?_
          exact g_sub [2, 3, 1, 0] rfl h
        · replace h := h.2 c
          refine g_aload_n (n := 30) (i := 0) C dX9_isDone_29 rfl 0 rfl rfl ?_
          refine gf_X9_7 (n := 33) 1 C E (om_0 hZ) rfl dX9_isDone_30 rfl ?_
          refine g_iload_n (n := 34) (i := 1) C dX9_isDone_33 rfl 1 rfl rfl ?_
          refine g_iconst (n := 35) (2 : Int32) C dX9_isDone_34 (by decide) rfl ?_
          refine g_iadd (n := 36) C dX9_isDone_35 rfl ?_
          refine g_iload_n (n := 37) (i := 3) C dX9_isDone_36 rfl 3 rfl rfl ?_
          refine g_iadd (n := 38) C dX9_isDone_37 rfl ?_
          refine g_iald (n := 39) C E (om_1 hZ) h.1 dX9_isDone_38 rfl ?_
          replace h := h.2
          refine g_iconst (n := 40) (1 : Int32) C dX9_isDone_39 (by decide) rfl ?_
          refine g_icmp_ne (n := 43) (tgt := 55) C dX9_isDone_40 (by decide) rfl (fun c => ?_) (fun c => ?_)
          · replace h := h.1 c
            refine g_iconst (n := 56) (1 : Int32) C dX9_isDone_55 (by decide) rfl ?_
            refine g_goto (tgt := 60) C dX9_isDone_56 (by decide) ?_
            refine g_istore_n (n := 61) (i := 2) C dX9_isDone_60 rfl (Nat.le_of_ble_eq_true rfl) rfl rfl (fun z7 ez7 => ?_)
            replace h := h z7 ez7
            refine g_iinc (n := 64) (v := (1 : Int32)) C dX9_isDone_61 3 rfl (by decide) (Nat.le_of_ble_eq_true rfl) rfl rfl (fun z8 ez8 => ?_)
            replace h := h z8 ez8
            refine g_goto (tgt := 4) C dX9_isDone_64 (by decide) ?_
            exact g_sub [2, 3, 1, 0] rfl h
          · replace h := h.2 c
            refine g_aload_n (n := 44) (i := 0) C dX9_isDone_43 rfl 0 rfl rfl ?_
            refine gf_X9_7 (n := 47) 1 C E (om_0 hZ) rfl dX9_isDone_44 rfl ?_
            refine g_iload_n (n := 48) (i := 1) C dX9_isDone_47 rfl 1 rfl rfl ?_
            refine g_iconst (n := 49) (1 : Int32) C dX9_isDone_48 (by decide) rfl ?_
            refine g_iadd (n := 50) C dX9_isDone_49 rfl ?_
            refine g_iald (n := 51) C E (om_1 hZ) h.1 dX9_isDone_50 rfl ?_
            replace h := h.2
            refine g_iload_n (n := 52) (i := 3) C dX9_isDone_51 rfl 3 rfl rfl ?_
            refine g_icmp_ne (n := 55) (tgt := 59) C dX9_isDone_52 (by decide) rfl (fun c => ?_) (fun c => ?_)
            · replace h := h.1 c
              refine g_iconst (n := 60) (0 : Int32) C dX9_isDone_59 (by decide) rfl ?_
              refine g_istore_n (n := 61) (i := 2) C dX9_isDone_60 rfl (Nat.le_of_ble_eq_true rfl) rfl rfl (fun z9 ez9 => ?_)
              replace h := h z9 ez9
              refine g_iinc (n := 64) (v := (1 : Int32)) C dX9_isDone_61 3 rfl (by decide) (Nat.le_of_ble_eq_true rfl) rfl rfl (fun z10 ez10 => ?_)
              replace h := h z10 ez10
              refine g_goto (tgt := 4) C dX9_isDone_64 (by decide) ?_
              exact g_sub [2, 3, 1, 0] rfl h
            · replace h := h.2 c
              refine g_iconst (n := 56) (1 : Int32) C dX9_isDone_55 (by decide) rfl ?_
              refine g_goto (tgt := 60) C dX9_isDone_56 (by decide) ?_
              refine g_istore_n (n := 61) (i := 2) C dX9_isDone_60 rfl (Nat.le_of_ble_eq_true rfl) rfl rfl (fun z11 ez11 => ?_)
              replace h := h z11 ez11
              refine g_iinc (n := 64) (v := (1 : Int32)) C dX9_isDone_61 3 rfl (by decide) (Nat.le_of_ble_eq_true rfl) rfl rfl (fun z12 ez12 => ?_)
              replace h := h z12 ez12
              refine g_goto (tgt := 4) C dX9_isDone_64 (by decide) ?_
              exact g_sub [2, 3, 1, 0] rfl h
  replace h := h (fun (M : Mem) (x4_2 : Int32) (x4_3 : Int32) => GS Z X 4 [(0, .ref (zb Z + 0)), (1, .int p1), (2, .int x4_2), (3, .int x4_3)] [] M) s4
  unfold B_MD_isDone_i at h
  show GS Z X 0 [(0, .ref (zb Z + 0)), (1, .int p1)] [] M
  refine g_iconst (n := 1) (1 : Int32) C dX9_isDone_0 (by decide) rfl ?_
  refine g_istore_n (n := 2) (i := 2) C dX9_isDone_1 rfl (Nat.le_of_ble_eq_true rfl) rfl rfl (fun z1 ez1 => ?_)
  replace h := h z1 ez1
  refine g_iconst (n := 3) (0 : Int32) C dX9_isDone_2 (by decide) rfl ?_
  refine g_istore_n (n := 4) (i := 3) C dX9_isDone_3 rfl (Nat.le_of_ble_eq_true rfl) rfl rfl (fun z2 ez2 => ?_)
  replace h := h z2 ez2
  exact g_sub [2, 3, 1, 0] rfl h
def B_MD_doneBy_i  (post : Int32 → Mem → Prop) (R2 : Mem → Int32 → Prop) (M : Mem)  : Prop :=
  ∀ z1 : Int32, z1 = (0 : Int32) → (R2 M z1)
def B_MD_doneBy_2  (post : Int32 → Mem → Prop) (R2 : Mem → Int32 → Prop) (M : Mem) (x2_1 : Int32) : Prop :=
  ((((99 : Int32) < x2_1) → post (1000000 : Int32) M) ∧ ((¬ (99 : Int32) < x2_1) → P_MD_isDone M (51 : Int32) (fun (r3 : Int32) (M2 : Mem) => (((r3 = 0) → P_MD_passes M2 (51 : Int32) (fun (M4 : Mem) => ∀ z5 : Int32, z5 = x2_1 + (1 : Int32) → (R2 M4 z5))) ∧ ((¬ r3 = 0) → post x2_1 M2)))))
def P_MD_doneBy (M : Mem)  (post : Int32 → Mem → Prop) : Prop :=
  ∀ (R2 : Mem → Int32 → Prop), (∀ (M : Mem) (x2_1 : Int32), B_MD_doneBy_2  post R2 M x2_1 → R2 M x2_1) → B_MD_doneBy_i  post R2 M
set_option maxHeartbeats 4000000 in
set_option maxRecDepth 100000 in
theorem c_MD_doneBy {Z : ZT} (hZ : IsM Z) (l : Launch)  (M : Mem) (post : Int32 → Mem → Prop) (h : P_MD_doneBy M  post) : CtI Z l yX9_doneBy cX9_doneBy 2 (some .int) 4 89 [.ref (zb Z + 0)] M post := by
  refine ctI (own := RX9) rfl (by decide) (Nat.le_of_ble_eq_true rfl) (fun X C E hr hQ => ?_)
  have s2 : ∀ (M : Mem) (x2_1 : Int32), B_MD_doneBy_2  post (fun (M : Mem) (x2_1 : Int32) => GS Z X 2 [(0, .ref (zb Z + 0)), (1, .int x2_1)] [] M) M x2_1 → GS Z X 2 [(0, .ref (zb Z + 0)), (1, .int x2_1)] [] M := by
    intro M x2_1 h
    unfold B_MD_doneBy_2 at h
    refine g_iload_n (n := 3) (i := 1) C dX9_doneBy_2 rfl 1 rfl rfl ?_
    refine g_bipush (n := 5) (99 : Int32) C dX9_doneBy_3 (by decide) rfl ?_
    refine g_icmp_gt (n := 8) (tgt := 31) C dX9_doneBy_5 (by decide) rfl (fun c => ?_) (fun c => ?_)
    · replace h := h.1 c
      refine g_ldc (n := 33) (1000000 : Int32) C wd_1057 dX9_doneBy_31 rfl ?_
      exact g_iret C hr hQ dX9_doneBy_33 h
    · replace h := h.2 c
      refine g_aload_n (n := 9) (i := 0) C dX9_doneBy_8 rfl 0 rfl rfl ?_
      refine g_bipush (n := 11) (51 : Int32) C dX9_doneBy_9 (by decide) rfl ?_
      refine g_callVi (n := 14) (kd := 9) C E (c_MD_isDone hZ _ (51 : Int32) M _ h) yi_X9_isDone wd_1066 rfl (om_0 hZ) (by decide) (Nat.le_of_ble_eq_true rfl) dX9_doneBy_11 rfl rfl (fun r3 M2 h => ?_)
      refine g_if_eq (n := 17) (tgt := 19) C dX9_doneBy_14 (by decide) rfl (fun c => ?_) (fun c => ?_)
      · replace h := h.1 c
        refine g_aload_n (n := 20) (i := 0) C dX9_doneBy_19 rfl 0 rfl rfl ?_
        refine g_bipush (n := 22) (51 : Int32) C dX9_doneBy_20 (by decide) rfl ?_
        refine g_callVv (n := 25) (kd := 9) C E (c_MD_passes hZ _ (51 : Int32) M2 _ h) yi_X9_passes wd_981 rfl (om_0 hZ) (by decide) (Nat.le_of_ble_eq_true rfl) dX9_doneBy_22 rfl rfl (fun M4 h => ?_)
        refine g_iinc (n := 28) (v := (1 : Int32)) C dX9_doneBy_25 1 rfl (by decide) (Nat.le_of_ble_eq_true rfl) rfl rfl (fun z5 ez5 => ?_)
        replace h := h z5 ez5
        refine g_goto (tgt := 2) C dX9_doneBy_28 (by decide) ?_
        exact g_sub [1, 0] rfl h
      · replace h := h.2 c
        refine g_iload_n (n := 18) (i := 1) C dX9_doneBy_17 rfl 1 rfl rfl ?_
        exact g_iret C hr hQ dX9_doneBy_18 h
  replace h := h (fun (M : Mem) (x2_1 : Int32) => GS Z X 2 [(0, .ref (zb Z + 0)), (1, .int x2_1)] [] M) s2
  unfold B_MD_doneBy_i at h
  show GS Z X 0 [(0, .ref (zb Z + 0))] [] M
  refine g_iconst (n := 1) (0 : Int32) C dX9_doneBy_0 (by decide) rfl ?_
  refine g_istore_n (n := 2) (i := 1) C dX9_doneBy_1 rfl (Nat.le_of_ble_eq_true rfl) rfl rfl (fun z1 ez1 => ?_)
  replace h := h z1 ez1
  exact g_sub [1, 0] rfl h
def B_MD_done_i  (post : Int32 → Mem → Prop)  (M : Mem)  : Prop :=
  P_MD_tries M (fun (M1 : Mem) => P_MD_doneBy M1 (fun (r3 : Int32) (M2 : Mem) => ∀ z4 : Int32, z4 = r3 → (((¬ z4 = (1000000 : Int32)) → post z4 M2) ∧ ((z4 = (1000000 : Int32)) → post (-4 : Int32) M2))))
def P_MD_done (M : Mem)  (post : Int32 → Mem → Prop) : Prop := B_MD_done_i  post M
set_option maxHeartbeats 4000000 in
set_option maxRecDepth 100000 in
theorem c_MD_done {Z : ZT} (hZ : IsM Z) (l : Launch)  (M : Mem) (post : Int32 → Mem → Prop) (h : P_MD_done M  post) : CtI Z l yX9_done cX9_done 2 (some .int) 5 110 [.ref (zb Z + 0)] M post := by
  refine ctI (own := RX9) rfl (by decide) (Nat.le_of_ble_eq_true rfl) (fun X C E hr hQ => ?_)
  unfold P_MD_done at h
  unfold B_MD_done_i at h
  show GS Z X 0 [(0, .ref (zb Z + 0))] [] M
  refine g_aload_n (n := 1) (i := 0) C dX9_done_0 rfl 0 rfl rfl ?_
  refine g_callVv (n := 4) (kd := 9) C E (c_MD_tries hZ _  M _ h) yi_X9_tries wd_1041 rfl (om_0 hZ) (by decide) (Nat.le_of_ble_eq_true rfl) dX9_done_1 rfl rfl (fun M1 h => ?_)
  refine g_aload_n (n := 5) (i := 0) C dX9_done_4 rfl 0 rfl rfl ?_
  refine g_callVi (n := 8) (kd := 9) C E (c_MD_doneBy hZ _  M1 _ h) yi_X9_doneBy wd_1062 rfl (om_0 hZ) (by decide) (Nat.le_of_ble_eq_true rfl) dX9_done_5 rfl rfl (fun r3 M2 h => ?_)
  refine g_istore_n (n := 9) (i := 1) C dX9_done_8 rfl (Nat.le_of_ble_eq_true rfl) rfl rfl (fun z4 ez4 => ?_)
  replace h := h z4 ez4
  refine g_iload_n (n := 10) (i := 1) C dX9_done_9 rfl 0 rfl rfl ?_
  refine g_ldc (n := 12) (1000000 : Int32) C wd_1057 dX9_done_10 rfl ?_
  refine g_icmp_ne (n := 15) (tgt := 20) C dX9_done_12 (by decide) rfl (fun c => ?_) (fun c => ?_)
  · replace h := h.1 c
    refine g_iload_n (n := 21) (i := 1) C dX9_done_20 rfl 0 rfl rfl ?_
    exact g_iret C hr hQ dX9_done_21 h
  · replace h := h.2 c
    refine g_bipush (n := 17) (-4 : Int32) C dX9_done_15 (by decide) rfl ?_
    refine g_goto (tgt := 21) C dX9_done_17 (by decide) ?_
    exact g_iret C hr hQ dX9_done_21 h
def B_MD_bestDeal_i  (post : Int32 → Mem → Prop) (R4 : Mem → Int32 → Int32 → Prop) (R51 : Mem → Int32 → Int32 → Int32 → Prop) (R61 : Mem → Int32 → Int32 → Int32 → Int32 → Int32 → Prop) (R216 : Mem → Int32 → Int32 → Int32 → Int32 → Int32 → Prop) (R99 : Mem → Int32 → Int32 → Int32 → Int32 → Prop) (R238 : Mem → Int32 → Int32 → Int32 → Int32 → Prop) (R164 : Mem → Int32 → Int32 → Int32 → Int32 → Prop) (M : Mem)  : Prop :=
  ∀ z1 : Int32, z1 = (0 : Int32) → ∀ z2 : Int32, z2 = (0 : Int32) → (R4 M z1 z2)
def B_MD_bestDeal_4  (post : Int32 → Mem → Prop) (R4 : Mem → Int32 → Int32 → Prop) (R51 : Mem → Int32 → Int32 → Int32 → Prop) (R61 : Mem → Int32 → Int32 → Int32 → Int32 → Int32 → Prop) (R216 : Mem → Int32 → Int32 → Int32 → Int32 → Int32 → Prop) (R99 : Mem → Int32 → Int32 → Int32 → Int32 → Prop) (R238 : Mem → Int32 → Int32 → Int32 → Int32 → Prop) (R164 : Mem → Int32 → Int32 → Int32 → Int32 → Prop) (M : Mem) (x4_1 : Int32) (x4_2 : Int32) : Prop :=
  ((((M 0 3) ≤ x4_2) → ∀ z3 : Int32, z3 = (1000000 : Int32) → ∀ z4 : Int32, z4 = (0 : Int32) → vp_in (0 : Int32) 8 ∧ (∀ M5 : Mem, M5 = mset M 12 ((0 : Int32)).toNatClampNeg (-1 : Int32) → (R51 M5 x4_1 z3 z4))) ∧ ((¬ (M 0 3) ≤ x4_2) → vp_in ((2 : Int32) + x4_2) 612 ∧ ((((¬ (M 1 (((2 : Int32) + x4_2)).toNatClampNeg) = 0) → ∀ z6 : Int32, z6 = x4_2 + (1 : Int32) → (R4 M x4_1 z6)) ∧ (((M 1 (((2 : Int32) + x4_2)).toNatClampNeg) = 0) → vp_in x4_1 7 ∧ (∀ M7 : Mem, M7 = mset M 11 (x4_1).toNatClampNeg x4_2 → ∀ z8 : Int32, z8 = x4_1 + (1 : Int32) → ∀ z9 : Int32, z9 = x4_2 + (1 : Int32) → (R4 M7 z8 z9)))))))
def B_MD_bestDeal_51  (post : Int32 → Mem → Prop) (R4 : Mem → Int32 → Int32 → Prop) (R51 : Mem → Int32 → Int32 → Int32 → Prop) (R61 : Mem → Int32 → Int32 → Int32 → Int32 → Int32 → Prop) (R216 : Mem → Int32 → Int32 → Int32 → Int32 → Int32 → Prop) (R99 : Mem → Int32 → Int32 → Int32 → Int32 → Prop) (R238 : Mem → Int32 → Int32 → Int32 → Int32 → Prop) (R164 : Mem → Int32 → Int32 → Int32 → Int32 → Prop) (M : Mem) (x51_1 : Int32) (x51_2 : Int32) (x51_3 : Int32) : Prop :=
  (((x51_3 < 0) → post x51_2 M) ∧ ((¬ x51_3 < 0) → ∀ z10 : Int32, z10 = (0 : Int32) → ∀ z11 : Int32, z11 = (0 : Int32) → (R61 M x51_1 x51_2 x51_3 z10 z11)))
def B_MD_bestDeal_61  (post : Int32 → Mem → Prop) (R4 : Mem → Int32 → Int32 → Prop) (R51 : Mem → Int32 → Int32 → Int32 → Prop) (R61 : Mem → Int32 → Int32 → Int32 → Int32 → Int32 → Prop) (R216 : Mem → Int32 → Int32 → Int32 → Int32 → Int32 → Prop) (R99 : Mem → Int32 → Int32 → Int32 → Int32 → Prop) (R238 : Mem → Int32 → Int32 → Int32 → Int32 → Prop) (R164 : Mem → Int32 → Int32 → Int32 → Int32 → Prop) (M : Mem) (x61_1 : Int32) (x61_2 : Int32) (x61_3 : Int32) (x61_4 : Int32) (x61_5 : Int32) : Prop :=
  (((x61_3 ≤ x61_5) → (((¬ x61_3 = x61_1) → vp_in x61_3 8 ∧ (∀ z12 : Int32, z12 = ((M 12 (x61_3).toNatClampNeg) + (1 : Int32)) → (R216 M x61_1 x61_2 x61_3 x61_4 z12))) ∧ ((x61_3 = x61_1) → P_MD_tries M (fun (M13 : Mem) => ∀ z14 : Int32, z14 = (0 : Int32) → (R99 M13 x61_1 x61_2 x61_3 z14))))) ∧ ((¬ x61_3 ≤ x61_5) → vp_in x61_5 8 ∧ (∀ z15 : Int32, z15 = (x61_4 ||| ((1 : Int32) <<< ((M 12 (x61_5).toNatClampNeg) &&& 31))) → ∀ z16 : Int32, z16 = x61_5 + (1 : Int32) → (R61 M x61_1 x61_2 x61_3 z15 z16))))
def B_MD_bestDeal_216  (post : Int32 → Mem → Prop) (R4 : Mem → Int32 → Int32 → Prop) (R51 : Mem → Int32 → Int32 → Int32 → Prop) (R61 : Mem → Int32 → Int32 → Int32 → Int32 → Int32 → Prop) (R216 : Mem → Int32 → Int32 → Int32 → Int32 → Int32 → Prop) (R99 : Mem → Int32 → Int32 → Int32 → Int32 → Prop) (R238 : Mem → Int32 → Int32 → Int32 → Int32 → Prop) (R164 : Mem → Int32 → Int32 → Int32 → Int32 → Prop) (M : Mem) (x216_1 : Int32) (x216_2 : Int32) (x216_3 : Int32) (x216_4 : Int32) (x216_5 : Int32) : Prop :=
  (((x216_1 ≤ x216_5) → (R238 M x216_1 x216_2 x216_3 x216_5)) ∧ ((¬ x216_1 ≤ x216_5) → P_MD_has M x216_4 x216_5 (fun (r18 : Int32) (M17 : Mem) => (((r18 = 0) → (R238 M17 x216_1 x216_2 x216_3 x216_5)) ∧ ((¬ r18 = 0) → ∀ z19 : Int32, z19 = x216_5 + (1 : Int32) → (R216 M17 x216_1 x216_2 x216_3 x216_4 z19))))))
def B_MD_bestDeal_99  (post : Int32 → Mem → Prop) (R4 : Mem → Int32 → Int32 → Prop) (R51 : Mem → Int32 → Int32 → Int32 → Prop) (R61 : Mem → Int32 → Int32 → Int32 → Int32 → Int32 → Prop) (R216 : Mem → Int32 → Int32 → Int32 → Int32 → Int32 → Prop) (R99 : Mem → Int32 → Int32 → Int32 → Int32 → Prop) (R238 : Mem → Int32 → Int32 → Int32 → Int32 → Prop) (R164 : Mem → Int32 → Int32 → Int32 → Int32 → Prop) (M : Mem) (x99_1 : Int32) (x99_2 : Int32) (x99_3 : Int32) (x99_5 : Int32) : Prop :=
  (((x99_1 ≤ x99_5) → P_MD_doneBy M (fun (r21 : Int32) (M20 : Mem) => ∀ z22 : Int32, z22 = r21 → (((x99_2 ≤ z22) → ∀ z23 : Int32, z23 = x99_3 + (-1 : Int32) → (R51 M20 x99_1 x99_2 z23)) ∧ ((¬ x99_2 ≤ z22) → ∀ z24 : Int32, z24 = z22 → ∀ z25 : Int32, z25 = (0 : Int32) → (R164 M20 x99_1 z24 x99_3 z25))))) ∧ ((¬ x99_1 ≤ x99_5) → vp_in x99_5 7 ∧ (vp_in x99_5 8 ∧ (vp_in (M 12 (x99_5).toNatClampNeg) 7 ∧ (vp_in ((16 : Int32) + (M 11 ((M 12 (x99_5).toNatClampNeg)).toNatClampNeg)) 612 ∧ (vp_in ((67 : Int32) + (M 11 (x99_5).toNatClampNeg)) 612 ∧ (∀ M26 : Mem, M26 = mset M 1 (((67 : Int32) + (M 11 (x99_5).toNatClampNeg))).toNatClampNeg (M 1 (((16 : Int32) + (M 11 ((M 12 (x99_5).toNatClampNeg)).toNatClampNeg))).toNatClampNeg) → ∀ z27 : Int32, z27 = x99_5 + (1 : Int32) → (R99 M26 x99_1 x99_2 x99_3 z27))))))))
def B_MD_bestDeal_238  (post : Int32 → Mem → Prop) (R4 : Mem → Int32 → Int32 → Prop) (R51 : Mem → Int32 → Int32 → Int32 → Prop) (R61 : Mem → Int32 → Int32 → Int32 → Int32 → Int32 → Prop) (R216 : Mem → Int32 → Int32 → Int32 → Int32 → Int32 → Prop) (R99 : Mem → Int32 → Int32 → Int32 → Int32 → Prop) (R238 : Mem → Int32 → Int32 → Int32 → Int32 → Prop) (R164 : Mem → Int32 → Int32 → Int32 → Int32 → Prop) (M : Mem) (x238_1 : Int32) (x238_2 : Int32) (x238_3 : Int32) (x238_5 : Int32) : Prop :=
  vp_in x238_3 8 ∧ (∀ M28 : Mem, M28 = mset M 12 (x238_3).toNatClampNeg x238_5 → (((¬ x238_5 = x238_1) → ∀ z29 : Int32, z29 = x238_3 + (1 : Int32) → vp_in z29 8 ∧ (∀ M30 : Mem, M30 = mset M28 12 (z29).toNatClampNeg (-1 : Int32) → (R51 M30 x238_1 x238_2 z29))) ∧ ((x238_5 = x238_1) → ∀ z31 : Int32, z31 = x238_3 + (-1 : Int32) → (R51 M28 x238_1 x238_2 z31))))
def B_MD_bestDeal_164  (post : Int32 → Mem → Prop) (R4 : Mem → Int32 → Int32 → Prop) (R51 : Mem → Int32 → Int32 → Int32 → Prop) (R61 : Mem → Int32 → Int32 → Int32 → Int32 → Int32 → Prop) (R216 : Mem → Int32 → Int32 → Int32 → Int32 → Int32 → Prop) (R99 : Mem → Int32 → Int32 → Int32 → Int32 → Prop) (R238 : Mem → Int32 → Int32 → Int32 → Int32 → Prop) (R164 : Mem → Int32 → Int32 → Int32 → Int32 → Prop) (M : Mem) (x164_1 : Int32) (x164_2 : Int32) (x164_3 : Int32) (x164_6 : Int32) : Prop :=
  (((x164_1 ≤ x164_6) → ∀ z32 : Int32, z32 = x164_3 + (-1 : Int32) → (R51 M x164_1 x164_2 z32)) ∧ ((¬ x164_1 ≤ x164_6) → vp_in x164_6 7 ∧ (vp_in x164_6 8 ∧ (vp_in (M 12 (x164_6).toNatClampNeg) 7 ∧ (vp_in (M 11 (x164_6).toNatClampNeg) 7 ∧ (∀ M33 : Mem, M33 = mset M 13 ((M 11 (x164_6).toNatClampNeg)).toNatClampNeg (M 11 ((M 12 (x164_6).toNatClampNeg)).toNatClampNeg) → ∀ z34 : Int32, z34 = x164_6 + (1 : Int32) → (R164 M33 x164_1 x164_2 x164_3 z34)))))))
def P_MD_bestDeal (M : Mem)  (post : Int32 → Mem → Prop) : Prop :=
  ∀ (R4 : Mem → Int32 → Int32 → Prop) (R51 : Mem → Int32 → Int32 → Int32 → Prop) (R61 : Mem → Int32 → Int32 → Int32 → Int32 → Int32 → Prop) (R216 : Mem → Int32 → Int32 → Int32 → Int32 → Int32 → Prop) (R99 : Mem → Int32 → Int32 → Int32 → Int32 → Prop) (R238 : Mem → Int32 → Int32 → Int32 → Int32 → Prop) (R164 : Mem → Int32 → Int32 → Int32 → Int32 → Prop), (∀ (M : Mem) (x4_1 : Int32) (x4_2 : Int32), B_MD_bestDeal_4  post R4 R51 R61 R216 R99 R238 R164 M x4_1 x4_2 → R4 M x4_1 x4_2) → (∀ (M : Mem) (x51_1 : Int32) (x51_2 : Int32) (x51_3 : Int32), B_MD_bestDeal_51  post R4 R51 R61 R216 R99 R238 R164 M x51_1 x51_2 x51_3 → R51 M x51_1 x51_2 x51_3) → (∀ (M : Mem) (x61_1 : Int32) (x61_2 : Int32) (x61_3 : Int32) (x61_4 : Int32) (x61_5 : Int32), B_MD_bestDeal_61  post R4 R51 R61 R216 R99 R238 R164 M x61_1 x61_2 x61_3 x61_4 x61_5 → R61 M x61_1 x61_2 x61_3 x61_4 x61_5) → (∀ (M : Mem) (x216_1 : Int32) (x216_2 : Int32) (x216_3 : Int32) (x216_4 : Int32) (x216_5 : Int32), B_MD_bestDeal_216  post R4 R51 R61 R216 R99 R238 R164 M x216_1 x216_2 x216_3 x216_4 x216_5 → R216 M x216_1 x216_2 x216_3 x216_4 x216_5) → (∀ (M : Mem) (x99_1 : Int32) (x99_2 : Int32) (x99_3 : Int32) (x99_5 : Int32), B_MD_bestDeal_99  post R4 R51 R61 R216 R99 R238 R164 M x99_1 x99_2 x99_3 x99_5 → R99 M x99_1 x99_2 x99_3 x99_5) → (∀ (M : Mem) (x238_1 : Int32) (x238_2 : Int32) (x238_3 : Int32) (x238_5 : Int32), B_MD_bestDeal_238  post R4 R51 R61 R216 R99 R238 R164 M x238_1 x238_2 x238_3 x238_5 → R238 M x238_1 x238_2 x238_3 x238_5) → (∀ (M : Mem) (x164_1 : Int32) (x164_2 : Int32) (x164_3 : Int32) (x164_6 : Int32), B_MD_bestDeal_164  post R4 R51 R61 R216 R99 R238 R164 M x164_1 x164_2 x164_3 x164_6 → R164 M x164_1 x164_2 x164_3 x164_6) → B_MD_bestDeal_i  post R4 R51 R61 R216 R99 R238 R164 M
set_option maxHeartbeats 4000000 in
set_option maxRecDepth 100000 in
theorem c_MD_bestDeal {Z : ZT} (hZ : IsM Z) (l : Launch)  (M : Mem) (post : Int32 → Mem → Prop) (h : P_MD_bestDeal M  post) : CtI Z l yX9_bestDeal cX9_bestDeal 7 (some .int) 5 110 [.ref (zb Z + 0)] M post := by
  refine ctI (own := RX9) rfl (by decide) (Nat.le_of_ble_eq_true rfl) (fun X C E hr hQ => ?_)
  have s4 : ∀ (M : Mem) (x4_1 : Int32) (x4_2 : Int32), B_MD_bestDeal_4  post (fun (M : Mem) (x4_1 : Int32) (x4_2 : Int32) => GS Z X 4 [(0, .ref (zb Z + 0)), (1, .int x4_1), (2, .int x4_2)] [] M) (fun (M : Mem) (x51_1 : Int32) (x51_2 : Int32) (x51_3 : Int32) => GS Z X 51 [(0, .ref (zb Z + 0)), (1, .int x51_1), (2, .int x51_2), (3, .int x51_3)] [] M) (fun (M : Mem) (x61_1 : Int32) (x61_2 : Int32) (x61_3 : Int32) (x61_4 : Int32) (x61_5 : Int32) => GS Z X 61 [(0, .ref (zb Z + 0)), (1, .int x61_1), (2, .int x61_2), (3, .int x61_3), (4, .int x61_4), (5, .int x61_5)] [] M) (fun (M : Mem) (x216_1 : Int32) (x216_2 : Int32) (x216_3 : Int32) (x216_4 : Int32) (x216_5 : Int32) => GS Z X 216 [(0, .ref (zb Z + 0)), (1, .int x216_1), (2, .int x216_2), (3, .int x216_3), (4, .int x216_4), (5, .int x216_5)] [] M) (fun (M : Mem) (x99_1 : Int32) (x99_2 : Int32) (x99_3 : Int32) (x99_5 : Int32) => GS Z X 99 [(0, .ref (zb Z + 0)), (1, .int x99_1), (2, .int x99_2), (3, .int x99_3), (5, .int x99_5)] [] M) (fun (M : Mem) (x238_1 : Int32) (x238_2 : Int32) (x238_3 : Int32) (x238_5 : Int32) => GS Z X 238 [(0, .ref (zb Z + 0)), (1, .int x238_1), (2, .int x238_2), (3, .int x238_3), (5, .int x238_5)] [] M) (fun (M : Mem) (x164_1 : Int32) (x164_2 : Int32) (x164_3 : Int32) (x164_6 : Int32) => GS Z X 164 [(0, .ref (zb Z + 0)), (1, .int x164_1), (2, .int x164_2), (3, .int x164_3), (6, .int x164_6)] [] M) M x4_1 x4_2 → GS Z X 4 [(0, .ref (zb Z + 0)), (1, .int x4_1), (2, .int x4_2)] [] M := by
    intro M x4_1 x4_2 h
    unfold B_MD_bestDeal_4 at h
    refine g_iload_n (n := 5) (i := 2) C dX9_bestDeal_4 rfl 2 rfl rfl ?_
    refine g_aload_n (n := 6) (i := 0) C dX9_bestDeal_5 rfl 0 rfl rfl ?_
    refine gf_X9_69 (n := 9) C E (om_0 hZ) dX9_bestDeal_6 rfl ?_
    refine g_icmp_ge (n := 12) (tgt := 39) C dX9_bestDeal_9 (by decide) rfl (fun c => ?_) (fun c => ?_)
    · replace h := h.1 c
      refine g_ldc (n := 41) (1000000 : Int32) C wd_1057 dX9_bestDeal_39 rfl ?_
      refine g_istore_n (n := 42) (i := 2) C dX9_bestDeal_41 rfl (Nat.le_of_ble_eq_true rfl) rfl rfl (fun z3 ez3 => ?_)
      replace h := h z3 ez3
      refine g_iconst (n := 43) (0 : Int32) C dX9_bestDeal_42 (by decide) rfl ?_
      refine g_istore_n (n := 44) (i := 3) C dX9_bestDeal_43 rfl (Nat.le_of_ble_eq_true rfl) rfl rfl (fun z4 ez4 => ?_)
      replace h := h z4 ez4
      refine g_aload_n (n := 45) (i := 0) C dX9_bestDeal_44 rfl 2 rfl rfl ?_
      refine gf_X9_43 (n := 48) 12 C E (om_0 hZ) rfl dX9_bestDeal_45 rfl ?_
      refine g_iconst (n := 49) (0 : Int32) C dX9_bestDeal_48 (by decide) rfl ?_
      refine g_iconst (n := 50) (-1 : Int32) C dX9_bestDeal_49 (by decide) rfl ?_
      refine g_iast (n := 51) C E (om_12 hZ) h.1 dX9_bestDeal_50 rfl (fun M5 eM5 => ?_)
      replace h := h.2 M5 eM5
      exact g_sub [2, 3, 1, 0] rfl h
    · replace h := h.2 c
      refine g_aload_n (n := 13) (i := 0) C dX9_bestDeal_12 rfl 0 rfl rfl ?_
      refine gf_X9_7 (n := 16) 1 C E (om_0 hZ) rfl dX9_bestDeal_13 rfl ?_
      refine g_iconst (n := 17) (2 : Int32) C dX9_bestDeal_16 (by decide) rfl ?_
      refine g_iload_n (n := 18) (i := 2) C dX9_bestDeal_17 rfl 2 rfl rfl ?_
      refine g_iadd (n := 19) C dX9_bestDeal_18 rfl ?_
      refine g_iald (n := 20) C E (om_1 hZ) h.1 dX9_bestDeal_19 rfl ?_
      replace h := h.2
      refine g_if_ne (n := 23) (tgt := 33) C dX9_bestDeal_20 (by decide) rfl (fun c => ?_) (fun c => ?_)
      · replace h := h.1 c
        refine g_iinc (n := 36) (v := (1 : Int32)) C dX9_bestDeal_33 2 rfl (by decide) (Nat.le_of_ble_eq_true rfl) rfl rfl (fun z6 ez6 => ?_)
        replace h := h z6 ez6
        refine g_goto (tgt := 4) C dX9_bestDeal_36 (by decide) ?_
        exact g_sub [1, 2, 0] rfl h
      · replace h := h.2 c
        refine g_aload_n (n := 24) (i := 0) C dX9_bestDeal_23 rfl 0 rfl rfl ?_
        refine gf_X9_40 (n := 27) 11 C E (om_0 hZ) rfl dX9_bestDeal_24 rfl ?_
        refine g_iload_n (n := 28) (i := 1) C dX9_bestDeal_27 rfl 1 rfl rfl ?_
        refine g_iload_n (n := 29) (i := 2) C dX9_bestDeal_28 rfl 2 rfl rfl ?_
        refine g_iast (n := 30) C E (om_11 hZ) h.1 dX9_bestDeal_29 rfl (fun M7 eM7 => ?_)
        replace h := h.2 M7 eM7
        refine g_iinc (n := 33) (v := (1 : Int32)) C dX9_bestDeal_30 1 rfl (by decide) (Nat.le_of_ble_eq_true rfl) rfl rfl (fun z8 ez8 => ?_)
        replace h := h z8 ez8
        refine g_iinc (n := 36) (v := (1 : Int32)) C dX9_bestDeal_33 2 rfl (by decide) (Nat.le_of_ble_eq_true rfl) rfl rfl (fun z9 ez9 => ?_)
        replace h := h z9 ez9
        refine g_goto (tgt := 4) C dX9_bestDeal_36 (by decide) ?_
        exact g_sub [2, 1, 0] rfl h
  have s51 : ∀ (M : Mem) (x51_1 : Int32) (x51_2 : Int32) (x51_3 : Int32), B_MD_bestDeal_51  post (fun (M : Mem) (x4_1 : Int32) (x4_2 : Int32) => GS Z X 4 [(0, .ref (zb Z + 0)), (1, .int x4_1), (2, .int x4_2)] [] M) (fun (M : Mem) (x51_1 : Int32) (x51_2 : Int32) (x51_3 : Int32) => GS Z X 51 [(0, .ref (zb Z + 0)), (1, .int x51_1), (2, .int x51_2), (3, .int x51_3)] [] M) (fun (M : Mem) (x61_1 : Int32) (x61_2 : Int32) (x61_3 : Int32) (x61_4 : Int32) (x61_5 : Int32) => GS Z X 61 [(0, .ref (zb Z + 0)), (1, .int x61_1), (2, .int x61_2), (3, .int x61_3), (4, .int x61_4), (5, .int x61_5)] [] M) (fun (M : Mem) (x216_1 : Int32) (x216_2 : Int32) (x216_3 : Int32) (x216_4 : Int32) (x216_5 : Int32) => GS Z X 216 [(0, .ref (zb Z + 0)), (1, .int x216_1), (2, .int x216_2), (3, .int x216_3), (4, .int x216_4), (5, .int x216_5)] [] M) (fun (M : Mem) (x99_1 : Int32) (x99_2 : Int32) (x99_3 : Int32) (x99_5 : Int32) => GS Z X 99 [(0, .ref (zb Z + 0)), (1, .int x99_1), (2, .int x99_2), (3, .int x99_3), (5, .int x99_5)] [] M) (fun (M : Mem) (x238_1 : Int32) (x238_2 : Int32) (x238_3 : Int32) (x238_5 : Int32) => GS Z X 238 [(0, .ref (zb Z + 0)), (1, .int x238_1), (2, .int x238_2), (3, .int x238_3), (5, .int x238_5)] [] M) (fun (M : Mem) (x164_1 : Int32) (x164_2 : Int32) (x164_3 : Int32) (x164_6 : Int32) => GS Z X 164 [(0, .ref (zb Z + 0)), (1, .int x164_1), (2, .int x164_2), (3, .int x164_3), (6, .int x164_6)] [] M) M x51_1 x51_2 x51_3 → GS Z X 51 [(0, .ref (zb Z + 0)), (1, .int x51_1), (2, .int x51_2), (3, .int x51_3)] [] M := by
    intro M x51_1 x51_2 x51_3 h
    unfold B_MD_bestDeal_51 at h
    refine g_iload_n (n := 52) (i := 3) C dX9_bestDeal_51 rfl 3 rfl rfl ?_
    refine g_if_lt (n := 55) (tgt := 271) C dX9_bestDeal_52 (by decide) rfl (fun c => ?_) (fun c => ?_)
    · replace h := h.1 c
      refine g_iload_n (n := 272) (i := 2) C dX9_bestDeal_271 rfl 2 rfl rfl ?_
      exact g_iret C hr hQ dX9_bestDeal_272 h
    · replace h := h.2 c
      refine g_iconst (n := 56) (0 : Int32) C dX9_bestDeal_55 (by decide) rfl ?_
      refine g_istore (n := 58) (i := 4) C dX9_bestDeal_56 (Nat.le_of_ble_eq_true rfl) rfl rfl (fun z10 ez10 => ?_)
      replace h := h z10 ez10
      refine g_iconst (n := 59) (0 : Int32) C dX9_bestDeal_58 (by decide) rfl ?_
      refine g_istore (n := 61) (i := 5) C dX9_bestDeal_59 (Nat.le_of_ble_eq_true rfl) rfl rfl (fun z11 ez11 => ?_)
      replace h := h z11 ez11
      exact g_sub [2, 3, 4, 5, 1, 0] rfl h
  have s61 : ∀ (M : Mem) (x61_1 : Int32) (x61_2 : Int32) (x61_3 : Int32) (x61_4 : Int32) (x61_5 : Int32), B_MD_bestDeal_61  post (fun (M : Mem) (x4_1 : Int32) (x4_2 : Int32) => GS Z X 4 [(0, .ref (zb Z + 0)), (1, .int x4_1), (2, .int x4_2)] [] M) (fun (M : Mem) (x51_1 : Int32) (x51_2 : Int32) (x51_3 : Int32) => GS Z X 51 [(0, .ref (zb Z + 0)), (1, .int x51_1), (2, .int x51_2), (3, .int x51_3)] [] M) (fun (M : Mem) (x61_1 : Int32) (x61_2 : Int32) (x61_3 : Int32) (x61_4 : Int32) (x61_5 : Int32) => GS Z X 61 [(0, .ref (zb Z + 0)), (1, .int x61_1), (2, .int x61_2), (3, .int x61_3), (4, .int x61_4), (5, .int x61_5)] [] M) (fun (M : Mem) (x216_1 : Int32) (x216_2 : Int32) (x216_3 : Int32) (x216_4 : Int32) (x216_5 : Int32) => GS Z X 216 [(0, .ref (zb Z + 0)), (1, .int x216_1), (2, .int x216_2), (3, .int x216_3), (4, .int x216_4), (5, .int x216_5)] [] M) (fun (M : Mem) (x99_1 : Int32) (x99_2 : Int32) (x99_3 : Int32) (x99_5 : Int32) => GS Z X 99 [(0, .ref (zb Z + 0)), (1, .int x99_1), (2, .int x99_2), (3, .int x99_3), (5, .int x99_5)] [] M) (fun (M : Mem) (x238_1 : Int32) (x238_2 : Int32) (x238_3 : Int32) (x238_5 : Int32) => GS Z X 238 [(0, .ref (zb Z + 0)), (1, .int x238_1), (2, .int x238_2), (3, .int x238_3), (5, .int x238_5)] [] M) (fun (M : Mem) (x164_1 : Int32) (x164_2 : Int32) (x164_3 : Int32) (x164_6 : Int32) => GS Z X 164 [(0, .ref (zb Z + 0)), (1, .int x164_1), (2, .int x164_2), (3, .int x164_3), (6, .int x164_6)] [] M) M x61_1 x61_2 x61_3 x61_4 x61_5 → GS Z X 61 [(0, .ref (zb Z + 0)), (1, .int x61_1), (2, .int x61_2), (3, .int x61_3), (4, .int x61_4), (5, .int x61_5)] [] M := by
    intro M x61_1 x61_2 x61_3 x61_4 x61_5 h
    unfold B_MD_bestDeal_61 at h
    refine g_iload (n := 63) C dX9_bestDeal_61 5 rfl rfl ?_
    refine g_iload_n (n := 64) (i := 3) C dX9_bestDeal_63 rfl 3 rfl rfl ?_
    refine g_icmp_ge (n := 67) (tgt := 87) C dX9_bestDeal_64 (by decide) rfl (fun c => ?_) (fun c => ?_)
    · replace h := h.1 c
      refine g_iload_n (n := 88) (i := 3) C dX9_bestDeal_87 rfl 3 rfl rfl ?_
      refine g_iload_n (n := 89) (i := 1) C dX9_bestDeal_88 rfl 1 rfl rfl ?_
      refine g_icmp_ne (n := 92) (tgt := 206) C dX9_bestDeal_89 (by decide) rfl (fun c => ?_) (fun c => ?_)
      · replace h := h.1 c
        refine g_aload_n (n := 207) (i := 0) C dX9_bestDeal_206 rfl 0 rfl rfl ?_
        refine gf_X9_43 (n := 210) 12 C E (om_0 hZ) rfl dX9_bestDeal_207 rfl ?_
        refine g_iload_n (n := 211) (i := 3) C dX9_bestDeal_210 rfl 3 rfl rfl ?_
        refine g_iald (n := 212) C E (om_12 hZ) h.1 dX9_bestDeal_211 rfl ?_
        replace h := h.2
        refine g_iconst (n := 213) (1 : Int32) C dX9_bestDeal_212 (by decide) rfl ?_
        refine g_iadd (n := 214) C dX9_bestDeal_213 rfl ?_
        refine g_istore (n := 216) (i := 5) C dX9_bestDeal_214 (Nat.le_of_ble_eq_true rfl) rfl rfl (fun z12 ez12 => ?_)
        replace h := h z12 ez12
        exact g_sub [1, 2, 3, 4, 5, 0] rfl h
      · replace h := h.2 c
        refine g_aload_n (n := 93) (i := 0) C dX9_bestDeal_92 rfl 0 rfl rfl ?_
        refine g_callVv (n := 96) (kd := 9) C E (c_MD_tries hZ _  M _ h) yi_X9_tries wd_1041 rfl (om_0 hZ) (by decide) (Nat.le_of_ble_eq_true rfl) dX9_bestDeal_93 rfl rfl (fun M13 h => ?_)
        refine g_iconst (n := 97) (0 : Int32) C dX9_bestDeal_96 (by decide) rfl ?_
        refine g_istore (n := 99) (i := 5) C dX9_bestDeal_97 (Nat.le_of_ble_eq_true rfl) rfl rfl (fun z14 ez14 => ?_)
        replace h := h z14 ez14
        exact g_sub [1, 2, 3, 4, 0] rfl h
    · replace h := h.2 c
      refine g_iload (n := 69) C dX9_bestDeal_67 4 rfl rfl ?_
      refine g_iconst (n := 70) (1 : Int32) C dX9_bestDeal_69 (by decide) rfl ?_
      refine g_aload_n (n := 71) (i := 0) C dX9_bestDeal_70 rfl 0 rfl rfl ?_
      refine gf_X9_43 (n := 74) 12 C E (om_0 hZ) rfl dX9_bestDeal_71 rfl ?_
      refine g_iload (n := 76) C dX9_bestDeal_74 5 rfl rfl ?_
      refine g_iald (n := 77) C E (om_12 hZ) h.1 dX9_bestDeal_76 rfl ?_
      replace h := h.2
      refine g_ishl (n := 78) C dX9_bestDeal_77 rfl ?_
      refine g_ior (n := 79) C dX9_bestDeal_78 rfl ?_
      refine g_istore (n := 81) (i := 4) C dX9_bestDeal_79 (Nat.le_of_ble_eq_true rfl) rfl rfl (fun z15 ez15 => ?_)
      replace h := h z15 ez15
      refine g_iinc (n := 84) (v := (1 : Int32)) C dX9_bestDeal_81 5 rfl (by decide) (Nat.le_of_ble_eq_true rfl) rfl rfl (fun z16 ez16 => ?_)
      replace h := h z16 ez16
      refine g_goto (tgt := 61) C dX9_bestDeal_84 (by decide) ?_
      exact g_sub [2, 3, 4, 5, 1, 0] rfl h
  have s216 : ∀ (M : Mem) (x216_1 : Int32) (x216_2 : Int32) (x216_3 : Int32) (x216_4 : Int32) (x216_5 : Int32), B_MD_bestDeal_216  post (fun (M : Mem) (x4_1 : Int32) (x4_2 : Int32) => GS Z X 4 [(0, .ref (zb Z + 0)), (1, .int x4_1), (2, .int x4_2)] [] M) (fun (M : Mem) (x51_1 : Int32) (x51_2 : Int32) (x51_3 : Int32) => GS Z X 51 [(0, .ref (zb Z + 0)), (1, .int x51_1), (2, .int x51_2), (3, .int x51_3)] [] M) (fun (M : Mem) (x61_1 : Int32) (x61_2 : Int32) (x61_3 : Int32) (x61_4 : Int32) (x61_5 : Int32) => GS Z X 61 [(0, .ref (zb Z + 0)), (1, .int x61_1), (2, .int x61_2), (3, .int x61_3), (4, .int x61_4), (5, .int x61_5)] [] M) (fun (M : Mem) (x216_1 : Int32) (x216_2 : Int32) (x216_3 : Int32) (x216_4 : Int32) (x216_5 : Int32) => GS Z X 216 [(0, .ref (zb Z + 0)), (1, .int x216_1), (2, .int x216_2), (3, .int x216_3), (4, .int x216_4), (5, .int x216_5)] [] M) (fun (M : Mem) (x99_1 : Int32) (x99_2 : Int32) (x99_3 : Int32) (x99_5 : Int32) => GS Z X 99 [(0, .ref (zb Z + 0)), (1, .int x99_1), (2, .int x99_2), (3, .int x99_3), (5, .int x99_5)] [] M) (fun (M : Mem) (x238_1 : Int32) (x238_2 : Int32) (x238_3 : Int32) (x238_5 : Int32) => GS Z X 238 [(0, .ref (zb Z + 0)), (1, .int x238_1), (2, .int x238_2), (3, .int x238_3), (5, .int x238_5)] [] M) (fun (M : Mem) (x164_1 : Int32) (x164_2 : Int32) (x164_3 : Int32) (x164_6 : Int32) => GS Z X 164 [(0, .ref (zb Z + 0)), (1, .int x164_1), (2, .int x164_2), (3, .int x164_3), (6, .int x164_6)] [] M) M x216_1 x216_2 x216_3 x216_4 x216_5 → GS Z X 216 [(0, .ref (zb Z + 0)), (1, .int x216_1), (2, .int x216_2), (3, .int x216_3), (4, .int x216_4), (5, .int x216_5)] [] M := by
    intro M x216_1 x216_2 x216_3 x216_4 x216_5 h
    unfold B_MD_bestDeal_216 at h
    refine g_iload (n := 218) C dX9_bestDeal_216 5 rfl rfl ?_
    refine g_iload_n (n := 219) (i := 1) C dX9_bestDeal_218 rfl 1 rfl rfl ?_
    refine g_icmp_ge (n := 222) (tgt := 238) C dX9_bestDeal_219 (by decide) rfl (fun c => ?_) (fun c => ?_)
    · replace h := h.1 c
      exact g_sub [0, 1, 2, 3, 5] rfl h
    · replace h := h.2 c
      refine g_iload (n := 224) C dX9_bestDeal_222 4 rfl rfl ?_
      refine g_iload (n := 226) C dX9_bestDeal_224 5 rfl rfl ?_
      refine g_callSi (n := 229) C E (c_MD_has hZ _ x216_4 x216_5 M _ h) ys_X9_has wd_1001 (by decide) (Nat.le_of_ble_eq_true rfl) dX9_bestDeal_226 rfl rfl (fun r18 M17 h => ?_)
      refine g_if_eq (n := 232) (tgt := 238) C dX9_bestDeal_229 (by decide) rfl (fun c => ?_) (fun c => ?_)
      · replace h := h.1 c
        exact g_sub [0, 1, 2, 3, 5] rfl h
      · replace h := h.2 c
        refine g_iinc (n := 235) (v := (1 : Int32)) C dX9_bestDeal_232 5 rfl (by decide) (Nat.le_of_ble_eq_true rfl) rfl rfl (fun z19 ez19 => ?_)
        replace h := h z19 ez19
        refine g_goto (tgt := 216) C dX9_bestDeal_235 (by decide) ?_
        exact g_sub [1, 2, 3, 4, 5, 0] rfl h
  have s99 : ∀ (M : Mem) (x99_1 : Int32) (x99_2 : Int32) (x99_3 : Int32) (x99_5 : Int32), B_MD_bestDeal_99  post (fun (M : Mem) (x4_1 : Int32) (x4_2 : Int32) => GS Z X 4 [(0, .ref (zb Z + 0)), (1, .int x4_1), (2, .int x4_2)] [] M) (fun (M : Mem) (x51_1 : Int32) (x51_2 : Int32) (x51_3 : Int32) => GS Z X 51 [(0, .ref (zb Z + 0)), (1, .int x51_1), (2, .int x51_2), (3, .int x51_3)] [] M) (fun (M : Mem) (x61_1 : Int32) (x61_2 : Int32) (x61_3 : Int32) (x61_4 : Int32) (x61_5 : Int32) => GS Z X 61 [(0, .ref (zb Z + 0)), (1, .int x61_1), (2, .int x61_2), (3, .int x61_3), (4, .int x61_4), (5, .int x61_5)] [] M) (fun (M : Mem) (x216_1 : Int32) (x216_2 : Int32) (x216_3 : Int32) (x216_4 : Int32) (x216_5 : Int32) => GS Z X 216 [(0, .ref (zb Z + 0)), (1, .int x216_1), (2, .int x216_2), (3, .int x216_3), (4, .int x216_4), (5, .int x216_5)] [] M) (fun (M : Mem) (x99_1 : Int32) (x99_2 : Int32) (x99_3 : Int32) (x99_5 : Int32) => GS Z X 99 [(0, .ref (zb Z + 0)), (1, .int x99_1), (2, .int x99_2), (3, .int x99_3), (5, .int x99_5)] [] M) (fun (M : Mem) (x238_1 : Int32) (x238_2 : Int32) (x238_3 : Int32) (x238_5 : Int32) => GS Z X 238 [(0, .ref (zb Z + 0)), (1, .int x238_1), (2, .int x238_2), (3, .int x238_3), (5, .int x238_5)] [] M) (fun (M : Mem) (x164_1 : Int32) (x164_2 : Int32) (x164_3 : Int32) (x164_6 : Int32) => GS Z X 164 [(0, .ref (zb Z + 0)), (1, .int x164_1), (2, .int x164_2), (3, .int x164_3), (6, .int x164_6)] [] M) M x99_1 x99_2 x99_3 x99_5 → GS Z X 99 [(0, .ref (zb Z + 0)), (1, .int x99_1), (2, .int x99_2), (3, .int x99_3), (5, .int x99_5)] [] M := by
    intro M x99_1 x99_2 x99_3 x99_5 h
    unfold B_MD_bestDeal_99 at h
    refine g_iload (n := 101) C dX9_bestDeal_99 4 rfl rfl ?_
    refine g_iload_n (n := 102) (i := 1) C dX9_bestDeal_101 rfl 1 rfl rfl ?_
    refine g_icmp_ge (n := 105) (tgt := 146) C dX9_bestDeal_102 (by decide) rfl (fun c => ?_) (fun c => ?_)
    · replace h := h.1 c
      refine g_aload_n (n := 147) (i := 0) C dX9_bestDeal_146 rfl 0 rfl rfl ?_
      refine g_callVi (n := 150) (kd := 9) C E (c_MD_doneBy hZ _  M _ h) yi_X9_doneBy wd_1062 rfl (om_0 hZ) (by decide) (Nat.le_of_ble_eq_true rfl) dX9_bestDeal_147 rfl rfl (fun r21 M20 h => ?_)
      refine g_istore (n := 152) (i := 5) C dX9_bestDeal_150 (Nat.le_of_ble_eq_true rfl) rfl rfl (fun z22 ez22 => ?_)
      replace h := h z22 ez22
      refine g_iload (n := 154) C dX9_bestDeal_152 0 rfl rfl ?_
      refine g_iload_n (n := 155) (i := 2) C dX9_bestDeal_154 rfl 3 rfl rfl ?_
      refine g_icmp_ge (n := 158) (tgt := 200) C dX9_bestDeal_155 (by decide) rfl (fun c => ?_) (fun c => ?_)
      · replace h := h.1 c
        refine g_iinc (n := 203) (v := (-1 : Int32)) C dX9_bestDeal_200 4 rfl (by decide) (Nat.le_of_ble_eq_true rfl) rfl rfl (fun z23 ez23 => ?_)
        replace h := h z23 ez23
        refine g_goto (tgt := 268) C dX9_bestDeal_203 (by decide) ?_
        refine g_goto (tgt := 51) C dX9_bestDeal_268 (by decide) ?_
        exact g_sub [2, 3, 4, 0] rfl h
      · replace h := h.2 c
        refine g_iload (n := 160) C dX9_bestDeal_158 0 rfl rfl ?_
        refine g_istore_n (n := 161) (i := 2) C dX9_bestDeal_160 rfl (Nat.le_of_ble_eq_true rfl) rfl rfl (fun z24 ez24 => ?_)
        replace h := h z24 ez24
        refine g_iconst (n := 162) (0 : Int32) C dX9_bestDeal_161 (by decide) rfl ?_
        refine g_istore (n := 164) (i := 6) C dX9_bestDeal_162 (Nat.le_of_ble_eq_true rfl) rfl rfl (fun z25 ez25 => ?_)
        replace h := h z25 ez25
        exact g_sub [3, 4, 1, 5, 0] rfl h
    · replace h := h.2 c
      refine g_aload_n (n := 106) (i := 0) C dX9_bestDeal_105 rfl 0 rfl rfl ?_
      refine gf_X9_7 (n := 109) 1 C E (om_0 hZ) rfl dX9_bestDeal_106 rfl ?_
      refine g_bipush (n := 111) (67 : Int32) C dX9_bestDeal_109 (by decide) rfl ?_
      refine g_aload_n (n := 112) (i := 0) C dX9_bestDeal_111 rfl 0 rfl rfl ?_
      refine gf_X9_40 (n := 115) 11 C E (om_0 hZ) rfl dX9_bestDeal_112 rfl ?_
      refine g_iload (n := 117) C dX9_bestDeal_115 4 rfl rfl ?_
      refine g_iald (n := 118) C E (om_11 hZ) h.1 dX9_bestDeal_117 rfl ?_
      replace h := h.2
      refine g_iadd (n := 119) C dX9_bestDeal_118 rfl ?_
      refine g_aload_n (n := 120) (i := 0) C dX9_bestDeal_119 rfl 0 rfl rfl ?_
      refine gf_X9_7 (n := 123) 1 C E (om_0 hZ) rfl dX9_bestDeal_120 rfl ?_
      refine g_bipush (n := 125) (16 : Int32) C dX9_bestDeal_123 (by decide) rfl ?_
      refine g_aload_n (n := 126) (i := 0) C dX9_bestDeal_125 rfl 0 rfl rfl ?_
      refine gf_X9_40 (n := 129) 11 C E (om_0 hZ) rfl dX9_bestDeal_126 rfl ?_
      refine g_aload_n (n := 130) (i := 0) C dX9_bestDeal_129 rfl 0 rfl rfl ?_
      refine gf_X9_43 (n := 133) 12 C E (om_0 hZ) rfl dX9_bestDeal_130 rfl ?_
      refine g_iload (n := 135) C dX9_bestDeal_133 4 rfl rfl ?_
      refine g_iald (n := 136) C E (om_12 hZ) h.1 dX9_bestDeal_135 rfl ?_
      replace h := h.2
      refine g_iald (n := 137) C E (om_11 hZ) h.1 dX9_bestDeal_136 rfl ?_
      replace h := h.2
      refine g_iadd (n := 138) C dX9_bestDeal_137 rfl ?_
      refine g_iald (n := 139) C E (om_1 hZ) h.1 dX9_bestDeal_138 rfl ?_
      replace h := h.2
      refine g_iast (n := 140) C E (om_1 hZ) h.1 dX9_bestDeal_139 rfl (fun M26 eM26 => ?_)
      replace h := h.2 M26 eM26
      refine g_iinc (n := 143) (v := (1 : Int32)) C dX9_bestDeal_140 4 rfl (by decide) (Nat.le_of_ble_eq_true rfl) rfl rfl (fun z27 ez27 => ?_)
      replace h := h z27 ez27
      refine g_goto (tgt := 99) C dX9_bestDeal_143 (by decide) ?_
      exact g_sub [1, 2, 3, 4, 0] rfl h
  have s238 : ∀ (M : Mem) (x238_1 : Int32) (x238_2 : Int32) (x238_3 : Int32) (x238_5 : Int32), B_MD_bestDeal_238  post (fun (M : Mem) (x4_1 : Int32) (x4_2 : Int32) => GS Z X 4 [(0, .ref (zb Z + 0)), (1, .int x4_1), (2, .int x4_2)] [] M) (fun (M : Mem) (x51_1 : Int32) (x51_2 : Int32) (x51_3 : Int32) => GS Z X 51 [(0, .ref (zb Z + 0)), (1, .int x51_1), (2, .int x51_2), (3, .int x51_3)] [] M) (fun (M : Mem) (x61_1 : Int32) (x61_2 : Int32) (x61_3 : Int32) (x61_4 : Int32) (x61_5 : Int32) => GS Z X 61 [(0, .ref (zb Z + 0)), (1, .int x61_1), (2, .int x61_2), (3, .int x61_3), (4, .int x61_4), (5, .int x61_5)] [] M) (fun (M : Mem) (x216_1 : Int32) (x216_2 : Int32) (x216_3 : Int32) (x216_4 : Int32) (x216_5 : Int32) => GS Z X 216 [(0, .ref (zb Z + 0)), (1, .int x216_1), (2, .int x216_2), (3, .int x216_3), (4, .int x216_4), (5, .int x216_5)] [] M) (fun (M : Mem) (x99_1 : Int32) (x99_2 : Int32) (x99_3 : Int32) (x99_5 : Int32) => GS Z X 99 [(0, .ref (zb Z + 0)), (1, .int x99_1), (2, .int x99_2), (3, .int x99_3), (5, .int x99_5)] [] M) (fun (M : Mem) (x238_1 : Int32) (x238_2 : Int32) (x238_3 : Int32) (x238_5 : Int32) => GS Z X 238 [(0, .ref (zb Z + 0)), (1, .int x238_1), (2, .int x238_2), (3, .int x238_3), (5, .int x238_5)] [] M) (fun (M : Mem) (x164_1 : Int32) (x164_2 : Int32) (x164_3 : Int32) (x164_6 : Int32) => GS Z X 164 [(0, .ref (zb Z + 0)), (1, .int x164_1), (2, .int x164_2), (3, .int x164_3), (6, .int x164_6)] [] M) M x238_1 x238_2 x238_3 x238_5 → GS Z X 238 [(0, .ref (zb Z + 0)), (1, .int x238_1), (2, .int x238_2), (3, .int x238_3), (5, .int x238_5)] [] M := by
    intro M x238_1 x238_2 x238_3 x238_5 h
    unfold B_MD_bestDeal_238 at h
    refine g_aload_n (n := 239) (i := 0) C dX9_bestDeal_238 rfl 0 rfl rfl ?_
    refine gf_X9_43 (n := 242) 12 C E (om_0 hZ) rfl dX9_bestDeal_239 rfl ?_
    refine g_iload_n (n := 243) (i := 3) C dX9_bestDeal_242 rfl 3 rfl rfl ?_
    refine g_iload (n := 245) C dX9_bestDeal_243 4 rfl rfl ?_
    refine g_iast (n := 246) C E (om_12 hZ) h.1 dX9_bestDeal_245 rfl (fun M28 eM28 => ?_)
    replace h := h.2 M28 eM28
    refine g_iload (n := 248) C dX9_bestDeal_246 4 rfl rfl ?_
    refine g_iload_n (n := 249) (i := 1) C dX9_bestDeal_248 rfl 1 rfl rfl ?_
    refine g_icmp_ne (n := 252) (tgt := 258) C dX9_bestDeal_249 (by decide) rfl (fun c => ?_) (fun c => ?_)
    · replace h := h.1 c
      refine g_iinc (n := 261) (v := (1 : Int32)) C dX9_bestDeal_258 3 rfl (by decide) (Nat.le_of_ble_eq_true rfl) rfl rfl (fun z29 ez29 => ?_)
      replace h := h z29 ez29
      refine g_aload_n (n := 262) (i := 0) C dX9_bestDeal_261 rfl 1 rfl rfl ?_
      refine gf_X9_43 (n := 265) 12 C E (om_0 hZ) rfl dX9_bestDeal_262 rfl ?_
      refine g_iload_n (n := 266) (i := 3) C dX9_bestDeal_265 rfl 0 rfl rfl ?_
      refine g_iconst (n := 267) (-1 : Int32) C dX9_bestDeal_266 (by decide) rfl ?_
      refine g_iast (n := 268) C E (om_12 hZ) h.1 dX9_bestDeal_267 rfl (fun M30 eM30 => ?_)
      replace h := h.2 M30 eM30
      refine g_goto (tgt := 51) C dX9_bestDeal_268 (by decide) ?_
      exact g_sub [1, 2, 3, 0] rfl h
    · replace h := h.2 c
      refine g_iinc (n := 255) (v := (-1 : Int32)) C dX9_bestDeal_252 3 rfl (by decide) (Nat.le_of_ble_eq_true rfl) rfl rfl (fun z31 ez31 => ?_)
      replace h := h z31 ez31
      refine g_goto (tgt := 268) C dX9_bestDeal_255 (by decide) ?_
      refine g_goto (tgt := 51) C dX9_bestDeal_268 (by decide) ?_
      exact g_sub [1, 2, 3, 0] rfl h
  have s164 : ∀ (M : Mem) (x164_1 : Int32) (x164_2 : Int32) (x164_3 : Int32) (x164_6 : Int32), B_MD_bestDeal_164  post (fun (M : Mem) (x4_1 : Int32) (x4_2 : Int32) => GS Z X 4 [(0, .ref (zb Z + 0)), (1, .int x4_1), (2, .int x4_2)] [] M) (fun (M : Mem) (x51_1 : Int32) (x51_2 : Int32) (x51_3 : Int32) => GS Z X 51 [(0, .ref (zb Z + 0)), (1, .int x51_1), (2, .int x51_2), (3, .int x51_3)] [] M) (fun (M : Mem) (x61_1 : Int32) (x61_2 : Int32) (x61_3 : Int32) (x61_4 : Int32) (x61_5 : Int32) => GS Z X 61 [(0, .ref (zb Z + 0)), (1, .int x61_1), (2, .int x61_2), (3, .int x61_3), (4, .int x61_4), (5, .int x61_5)] [] M) (fun (M : Mem) (x216_1 : Int32) (x216_2 : Int32) (x216_3 : Int32) (x216_4 : Int32) (x216_5 : Int32) => GS Z X 216 [(0, .ref (zb Z + 0)), (1, .int x216_1), (2, .int x216_2), (3, .int x216_3), (4, .int x216_4), (5, .int x216_5)] [] M) (fun (M : Mem) (x99_1 : Int32) (x99_2 : Int32) (x99_3 : Int32) (x99_5 : Int32) => GS Z X 99 [(0, .ref (zb Z + 0)), (1, .int x99_1), (2, .int x99_2), (3, .int x99_3), (5, .int x99_5)] [] M) (fun (M : Mem) (x238_1 : Int32) (x238_2 : Int32) (x238_3 : Int32) (x238_5 : Int32) => GS Z X 238 [(0, .ref (zb Z + 0)), (1, .int x238_1), (2, .int x238_2), (3, .int x238_3), (5, .int x238_5)] [] M) (fun (M : Mem) (x164_1 : Int32) (x164_2 : Int32) (x164_3 : Int32) (x164_6 : Int32) => GS Z X 164 [(0, .ref (zb Z + 0)), (1, .int x164_1), (2, .int x164_2), (3, .int x164_3), (6, .int x164_6)] [] M) M x164_1 x164_2 x164_3 x164_6 → GS Z X 164 [(0, .ref (zb Z + 0)), (1, .int x164_1), (2, .int x164_2), (3, .int x164_3), (6, .int x164_6)] [] M := by
    intro M x164_1 x164_2 x164_3 x164_6 h
    unfold B_MD_bestDeal_164 at h
    refine g_iload (n := 166) C dX9_bestDeal_164 4 rfl rfl ?_
    refine g_iload_n (n := 167) (i := 1) C dX9_bestDeal_166 rfl 1 rfl rfl ?_
    refine g_icmp_ge (n := 170) (tgt := 200) C dX9_bestDeal_167 (by decide) rfl (fun c => ?_) (fun c => ?_)
    · replace h := h.1 c
      refine g_iinc (n := 203) (v := (-1 : Int32)) C dX9_bestDeal_200 3 rfl (by decide) (Nat.le_of_ble_eq_true rfl) rfl rfl (fun z32 ez32 => ?_)
      replace h := h z32 ez32
      refine g_goto (tgt := 268) C dX9_bestDeal_203 (by decide) ?_
      refine g_goto (tgt := 51) C dX9_bestDeal_268 (by decide) ?_
      exact g_sub [1, 2, 3, 0] rfl h
    · replace h := h.2 c
      refine g_aload_n (n := 171) (i := 0) C dX9_bestDeal_170 rfl 0 rfl rfl ?_
      refine gf_X9_46 (n := 174) 13 C E (om_0 hZ) rfl dX9_bestDeal_171 rfl ?_
      refine g_aload_n (n := 175) (i := 0) C dX9_bestDeal_174 rfl 0 rfl rfl ?_
      refine gf_X9_40 (n := 178) 11 C E (om_0 hZ) rfl dX9_bestDeal_175 rfl ?_
      refine g_iload (n := 180) C dX9_bestDeal_178 4 rfl rfl ?_
      refine g_iald (n := 181) C E (om_11 hZ) h.1 dX9_bestDeal_180 rfl ?_
      replace h := h.2
      refine g_aload_n (n := 182) (i := 0) C dX9_bestDeal_181 rfl 0 rfl rfl ?_
      refine gf_X9_40 (n := 185) 11 C E (om_0 hZ) rfl dX9_bestDeal_182 rfl ?_
      refine g_aload_n (n := 186) (i := 0) C dX9_bestDeal_185 rfl 0 rfl rfl ?_
      refine gf_X9_43 (n := 189) 12 C E (om_0 hZ) rfl dX9_bestDeal_186 rfl ?_
      refine g_iload (n := 191) C dX9_bestDeal_189 4 rfl rfl ?_
      refine g_iald (n := 192) C E (om_12 hZ) h.1 dX9_bestDeal_191 rfl ?_
      replace h := h.2
      refine g_iald (n := 193) C E (om_11 hZ) h.1 dX9_bestDeal_192 rfl ?_
      replace h := h.2
      refine g_iast (n := 194) C E (om_13 hZ) h.1 dX9_bestDeal_193 rfl (fun M33 eM33 => ?_)
      replace h := h.2 M33 eM33
      refine g_iinc (n := 197) (v := (1 : Int32)) C dX9_bestDeal_194 4 rfl (by decide) (Nat.le_of_ble_eq_true rfl) rfl rfl (fun z34 ez34 => ?_)
      replace h := h z34 ez34
      refine g_goto (tgt := 164) C dX9_bestDeal_197 (by decide) ?_
      exact g_sub [1, 2, 3, 4, 0] rfl h
  replace h := h (fun (M : Mem) (x4_1 : Int32) (x4_2 : Int32) => GS Z X 4 [(0, .ref (zb Z + 0)), (1, .int x4_1), (2, .int x4_2)] [] M) (fun (M : Mem) (x51_1 : Int32) (x51_2 : Int32) (x51_3 : Int32) => GS Z X 51 [(0, .ref (zb Z + 0)), (1, .int x51_1), (2, .int x51_2), (3, .int x51_3)] [] M) (fun (M : Mem) (x61_1 : Int32) (x61_2 : Int32) (x61_3 : Int32) (x61_4 : Int32) (x61_5 : Int32) => GS Z X 61 [(0, .ref (zb Z + 0)), (1, .int x61_1), (2, .int x61_2), (3, .int x61_3), (4, .int x61_4), (5, .int x61_5)] [] M) (fun (M : Mem) (x216_1 : Int32) (x216_2 : Int32) (x216_3 : Int32) (x216_4 : Int32) (x216_5 : Int32) => GS Z X 216 [(0, .ref (zb Z + 0)), (1, .int x216_1), (2, .int x216_2), (3, .int x216_3), (4, .int x216_4), (5, .int x216_5)] [] M) (fun (M : Mem) (x99_1 : Int32) (x99_2 : Int32) (x99_3 : Int32) (x99_5 : Int32) => GS Z X 99 [(0, .ref (zb Z + 0)), (1, .int x99_1), (2, .int x99_2), (3, .int x99_3), (5, .int x99_5)] [] M) (fun (M : Mem) (x238_1 : Int32) (x238_2 : Int32) (x238_3 : Int32) (x238_5 : Int32) => GS Z X 238 [(0, .ref (zb Z + 0)), (1, .int x238_1), (2, .int x238_2), (3, .int x238_3), (5, .int x238_5)] [] M) (fun (M : Mem) (x164_1 : Int32) (x164_2 : Int32) (x164_3 : Int32) (x164_6 : Int32) => GS Z X 164 [(0, .ref (zb Z + 0)), (1, .int x164_1), (2, .int x164_2), (3, .int x164_3), (6, .int x164_6)] [] M) s4 s51 s61 s216 s99 s238 s164
  unfold B_MD_bestDeal_i at h
  show GS Z X 0 [(0, .ref (zb Z + 0))] [] M
  refine g_iconst (n := 1) (0 : Int32) C dX9_bestDeal_0 (by decide) rfl ?_
  refine g_istore_n (n := 2) (i := 1) C dX9_bestDeal_1 rfl (Nat.le_of_ble_eq_true rfl) rfl rfl (fun z1 ez1 => ?_)
  replace h := h z1 ez1
  refine g_iconst (n := 3) (0 : Int32) C dX9_bestDeal_2 (by decide) rfl ?_
  refine g_istore_n (n := 4) (i := 2) C dX9_bestDeal_3 rfl (Nat.le_of_ble_eq_true rfl) rfl rfl (fun z2 ez2 => ?_)
  replace h := h z2 ez2
  exact g_sub [2, 1, 0] rfl h
def B_MD_deal_i (p1 : Int32) (post : Int32 → Mem → Prop) (R15 : Mem → Prop) (M : Mem)  : Prop :=
  (((p1 = (-1 : Int32)) → (R15 M)) ∧ ((¬ p1 = (-1 : Int32)) → P_MD_isGuest M p1 (fun (r2 : Int32) (M1 : Mem) => (((¬ r2 = 0) → (R15 M1)) ∧ ((r2 = 0) → post (-1 : Int32) M1)))))
def B_MD_deal_15 (p1 : Int32) (post : Int32 → Mem → Prop) (R15 : Mem → Prop) (M : Mem)  : Prop :=
  P_MD_bestDeal M (fun (r4 : Int32) (M3 : Mem) => ∀ z5 : Int32, z5 = r4 → (((¬ z5 = (1000000 : Int32)) → (((¬ p1 = (-1 : Int32)) → vp_in ((2 : Int32) + p1) 612 ∧ ((((¬ (M3 1 (((2 : Int32) + p1)).toNatClampNeg) = 0) → post (-4 : Int32) M3) ∧ (((M3 1 (((2 : Int32) + p1)).toNatClampNeg) = 0) → vp_in p1 7 ∧ (post (M3 13 (p1).toNatClampNeg) M3))))) ∧ ((p1 = (-1 : Int32)) → post z5 M3))) ∧ ((z5 = (1000000 : Int32)) → post (-4 : Int32) M3)))
def P_MD_deal (M : Mem) (p1 : Int32) (post : Int32 → Mem → Prop) : Prop :=
  ∀ (R15 : Mem → Prop), (∀ (M : Mem) , B_MD_deal_15 p1 post R15 M  → R15 M ) → B_MD_deal_i p1 post R15 M
set_option maxHeartbeats 4000000 in
set_option maxRecDepth 100000 in
theorem c_MD_deal {Z : ZT} (hZ : IsM Z) (l : Launch) (p1 : Int32) (M : Mem) (post : Int32 → Mem → Prop) (h : P_MD_deal M p1 post) : CtI Z l yX9_deal cX9_deal 3 (some .int) 6 136 [.ref (zb Z + 0), .int p1] M post := by
  refine ctI (own := RX9) rfl (by decide) (Nat.le_of_ble_eq_true rfl) (fun X C E hr hQ => ?_)
  have s15 : ∀ (M : Mem) , B_MD_deal_15 p1 post (fun (M : Mem)  => GS Z X 15 [(0, .ref (zb Z + 0)), (1, .int p1)] [] M) M  → GS Z X 15 [(0, .ref (zb Z + 0)), (1, .int p1)] [] M := by
    intro M  h
    unfold B_MD_deal_15 at h
    refine g_aload_n (n := 16) (i := 0) C dX9_deal_15 rfl 0 rfl rfl ?_
    refine g_callVi (n := 19) (kd := 9) C E (c_MD_bestDeal hZ _  M _ h) yi_X9_bestDeal wd_1074 rfl (om_0 hZ) (by decide) (Nat.le_of_ble_eq_true rfl) dX9_deal_16 rfl rfl (fun r4 M3 h => ?_)
    refine g_istore_n (n := 20) (i := 2) C dX9_deal_19 rfl (Nat.le_of_ble_eq_true rfl) rfl rfl (fun z5 ez5 => ?_)
    replace h := h z5 ez5
    refine g_iload_n (n := 21) (i := 2) C dX9_deal_20 rfl 0 rfl rfl ?_
    refine g_ldc (n := 23) (1000000 : Int32) C wd_1057 dX9_deal_21 rfl ?_
    refine g_icmp_ne (n := 26) (tgt := 29) C dX9_deal_23 (by decide) rfl (fun c => ?_) (fun c => ?_)
    · replace h := h.1 c
      refine g_iload_n (n := 30) (i := 1) C dX9_deal_29 rfl 2 rfl rfl ?_
      refine g_iconst (n := 31) (-1 : Int32) C dX9_deal_30 (by decide) rfl ?_
      refine g_icmp_ne (n := 34) (tgt := 38) C dX9_deal_31 (by decide) rfl (fun c => ?_) (fun c => ?_)
      · replace h := h.1 c
        refine g_aload_n (n := 39) (i := 0) C dX9_deal_38 rfl 1 rfl rfl ?_
        refine gf_X9_7 (n := 42) 1 C E (om_0 hZ) rfl dX9_deal_39 rfl ?_
        refine g_iconst (n := 43) (2 : Int32) C dX9_deal_42 (by decide) rfl ?_
        refine g_iload_n (n := 44) (i := 1) C dX9_deal_43 rfl 2 rfl rfl ?_
        refine g_iadd (n := 45) C dX9_deal_44 rfl ?_
        refine g_iald (n := 46) C E (om_1 hZ) h.1 dX9_deal_45 rfl ?_
        replace h := h.2
        refine g_if_ne (n := 49) (tgt := 58) C dX9_deal_46 (by decide) rfl (fun c => ?_) (fun c => ?_)
        · replace h := h.1 c
          refine g_bipush (n := 60) (-4 : Int32) C dX9_deal_58 (by decide) rfl ?_
          exact g_iret C hr hQ dX9_deal_60 h
        · replace h := h.2 c
          refine g_aload_n (n := 50) (i := 0) C dX9_deal_49 rfl 1 rfl rfl ?_
          refine gf_X9_46 (n := 53) 13 C E (om_0 hZ) rfl dX9_deal_50 rfl ?_
          refine g_iload_n (n := 54) (i := 1) C dX9_deal_53 rfl 2 rfl rfl ?_
          refine g_iald (n := 55) C E (om_13 hZ) h.1 dX9_deal_54 rfl ?_
          replace h := h.2
          refine g_goto (tgt := 60) C dX9_deal_55 (by decide) ?_
          exact g_iret C hr hQ dX9_deal_60 h
      · replace h := h.2 c
        refine g_iload_n (n := 35) (i := 2) C dX9_deal_34 rfl 0 rfl rfl ?_
        refine g_goto (tgt := 60) C dX9_deal_35 (by decide) ?_
        exact g_iret C hr hQ dX9_deal_60 h
    · replace h := h.2 c
      refine g_bipush (n := 28) (-4 : Int32) C dX9_deal_26 (by decide) rfl ?_
      exact g_iret C hr hQ dX9_deal_28 h
  replace h := h (fun (M : Mem)  => GS Z X 15 [(0, .ref (zb Z + 0)), (1, .int p1)] [] M) s15
  unfold B_MD_deal_i at h
  show GS Z X 0 [(0, .ref (zb Z + 0)), (1, .int p1)] [] M
  refine g_iload_n (n := 1) (i := 1) C dX9_deal_0 rfl 1 rfl rfl ?_
  refine g_iconst (n := 2) (-1 : Int32) C dX9_deal_1 (by decide) rfl ?_
  refine g_icmp_eq (n := 5) (tgt := 15) C dX9_deal_2 (by decide) rfl (fun c => ?_) (fun c => ?_)
  · replace h := h.1 c
    exact g_sub [0, 1] rfl h
  · replace h := h.2 c
    refine g_aload_n (n := 6) (i := 0) C dX9_deal_5 rfl 0 rfl rfl ?_
    refine g_iload_n (n := 7) (i := 1) C dX9_deal_6 rfl 1 rfl rfl ?_
    refine g_callVi (n := 10) (kd := 9) C E (c_MD_isGuest hZ _ p1 M _ h) yi_X9_isGuest wd_959 rfl (om_0 hZ) (by decide) (Nat.le_of_ble_eq_true rfl) dX9_deal_7 rfl rfl (fun r2 M1 h => ?_)
    refine g_if_ne (n := 13) (tgt := 15) C dX9_deal_10 (by decide) rfl (fun c => ?_) (fun c => ?_)
    · replace h := h.1 c
      exact g_sub [0, 1] rfl h
    · replace h := h.2 c
      refine g_iconst (n := 14) (-1 : Int32) C dX9_deal_13 (by decide) rfl ?_
      exact g_iret C hr hQ dX9_deal_14 h
def B_MD_off_i (p1 : Int32) (post : Int32 → Mem → Prop) (R21 : Mem → Int32 → Int32 → Int32 → Prop) (R75 : Mem → Int32 → Int32 → Int32 → Int32 → Prop) (M : Mem)  : Prop :=
  P_MD_in M p1.toInt64 (0 : Int64) (1 : Int64) (fun (r2 : Int32) (M1 : Mem) => (((¬ r2 = 0) → ∀ z3 : Int32, z3 = (-4 : Int32) → ∀ z4 : Int32, z4 = (1000000 : Int32) → ∀ z5 : Int32, z5 = (0 : Int32) → (R21 M1 z3 z4 z5)) ∧ ((r2 = 0) → post (-1 : Int32) M1)))
def B_MD_off_21 (p1 : Int32) (post : Int32 → Mem → Prop) (R21 : Mem → Int32 → Int32 → Int32 → Prop) (R75 : Mem → Int32 → Int32 → Int32 → Int32 → Prop) (M : Mem) (x21_2 : Int32) (x21_3 : Int32) (x21_4 : Int32) : Prop :=
  ((((M 0 3) ≤ x21_4) → (((¬ x21_2 = (-4 : Int32)) → (((¬ p1 = 0) → post x21_3 M) ∧ ((p1 = 0) → post x21_2 M))) ∧ ((x21_2 = (-4 : Int32)) → post (-4 : Int32) M))) ∧ ((¬ (M 0 3) ≤ x21_4) → vp_in ((2 : Int32) + x21_4) 612 ∧ ((((¬ (M 1 (((2 : Int32) + x21_4)).toNatClampNeg) = 0) → ∀ z6 : Int32, z6 = x21_4 + (1 : Int32) → (R21 M x21_2 x21_3 z6)) ∧ (((M 1 (((2 : Int32) + x21_4)).toNatClampNeg) = 0) → P_MD_tries M (fun (M7 : Mem) => vp_in ((53 : Int32) + x21_4) 612 ∧ (∀ M8 : Mem, M8 = mset M7 1 (((53 : Int32) + x21_4)).toNatClampNeg (3 : Int32) → P_MD_doneBy M8 (fun (r10 : Int32) (M9 : Mem) => ∀ z11 : Int32, z11 = r10 → (((x21_3 ≤ z11) → (R75 M9 x21_3 x21_4 z11 x21_2)) ∧ ((¬ x21_3 ≤ z11) → (R75 M9 x21_3 x21_4 z11 x21_4)))))))))))
def B_MD_off_75 (p1 : Int32) (post : Int32 → Mem → Prop) (R21 : Mem → Int32 → Int32 → Int32 → Prop) (R75 : Mem → Int32 → Int32 → Int32 → Int32 → Prop) (M : Mem) (x75_3 : Int32) (x75_4 : Int32) (x75_5 : Int32) (s75_0 : Int32) : Prop :=
  ∀ z12 : Int32, z12 = s75_0 → (((x75_3 ≤ x75_5) → ∀ z13 : Int32, z13 = x75_3 → ∀ z14 : Int32, z14 = x75_4 + (1 : Int32) → (R21 M z12 z13 z14)) ∧ ((¬ x75_3 ≤ x75_5) → ∀ z15 : Int32, z15 = x75_5 → ∀ z16 : Int32, z16 = x75_4 + (1 : Int32) → (R21 M z12 z15 z16)))
def P_MD_off (M : Mem) (p1 : Int32) (post : Int32 → Mem → Prop) : Prop :=
  ∀ (R21 : Mem → Int32 → Int32 → Int32 → Prop) (R75 : Mem → Int32 → Int32 → Int32 → Int32 → Prop), (∀ (M : Mem) (x21_2 : Int32) (x21_3 : Int32) (x21_4 : Int32), B_MD_off_21 p1 post R21 R75 M x21_2 x21_3 x21_4 → R21 M x21_2 x21_3 x21_4) → (∀ (M : Mem) (x75_3 : Int32) (x75_4 : Int32) (x75_5 : Int32) (s75_0 : Int32), B_MD_off_75 p1 post R21 R75 M x75_3 x75_4 x75_5 s75_0 → R75 M x75_3 x75_4 x75_5 s75_0) → B_MD_off_i p1 post R21 R75 M
set_option maxHeartbeats 4000000 in
set_option maxRecDepth 100000 in
theorem c_MD_off {Z : ZT} (hZ : IsM Z) (l : Launch) (p1 : Int32) (M : Mem) (post : Int32 → Mem → Prop) (h : P_MD_off M p1 post) : CtI Z l yX9_off cX9_off 6 (some .int) 5 110 [.ref (zb Z + 0), .int p1] M post := by
  refine ctI (own := RX9) rfl (by decide) (Nat.le_of_ble_eq_true rfl) (fun X C E hr hQ => ?_)
  have s21 : ∀ (M : Mem) (x21_2 : Int32) (x21_3 : Int32) (x21_4 : Int32), B_MD_off_21 p1 post (fun (M : Mem) (x21_2 : Int32) (x21_3 : Int32) (x21_4 : Int32) => GS Z X 21 [(0, .ref (zb Z + 0)), (1, .int p1), (2, .int x21_2), (3, .int x21_3), (4, .int x21_4)] [] M) (fun (M : Mem) (x75_3 : Int32) (x75_4 : Int32) (x75_5 : Int32) (s75_0 : Int32) => GS Z X 75 [(0, .ref (zb Z + 0)), (1, .int p1), (3, .int x75_3), (4, .int x75_4), (5, .int x75_5)] [.int s75_0] M) M x21_2 x21_3 x21_4 → GS Z X 21 [(0, .ref (zb Z + 0)), (1, .int p1), (2, .int x21_2), (3, .int x21_3), (4, .int x21_4)] [] M := by
    intro M x21_2 x21_3 x21_4 h
    unfold B_MD_off_21 at h
    refine g_iload (n := 23) C dX9_off_21 4 rfl rfl ?_
    refine g_aload_n (n := 24) (i := 0) C dX9_off_23 rfl 0 rfl rfl ?_
    refine gf_X9_69 (n := 27) C E (om_0 hZ) dX9_off_24 rfl ?_
    refine g_icmp_ge (n := 30) (tgt := 95) C dX9_off_27 (by decide) rfl (fun c => ?_) (fun c => ?_)
    · replace h := h.1 c
      refine g_iload_n (n := 96) (i := 2) C dX9_off_95 rfl 2 rfl rfl ?_
      refine g_bipush (n := 98) (-4 : Int32) C dX9_off_96 (by decide) rfl ?_
      refine g_icmp_ne (n := 101) (tgt := 106) C dX9_off_98 (by decide) rfl (fun c => ?_) (fun c => ?_)
      · replace h := h.1 c
        refine g_iload_n (n := 107) (i := 1) C dX9_off_106 rfl 1 rfl rfl ?_
        refine g_if_ne (n := 110) (tgt := 114) C dX9_off_107 (by decide) rfl (fun c => ?_) (fun c => ?_)
        · replace h := h.1 c
          refine g_iload_n (n := 115) (i := 3) C dX9_off_114 rfl 3 rfl rfl ?_
          exact g_iret C hr hQ dX9_off_115 h
        · replace h := h.2 c
          refine g_iload_n (n := 111) (i := 2) C dX9_off_110 rfl 2 rfl rfl ?_
          refine g_goto (tgt := 115) C dX9_off_111 (by decide) ?_
          exact g_iret C hr hQ dX9_off_115 h
      · replace h := h.2 c
        refine g_bipush (n := 103) (-4 : Int32) C dX9_off_101 (by decide) rfl ?_
        refine g_goto (tgt := 115) C dX9_off_103 (by decide) ?_
        exact g_iret C hr hQ dX9_off_115 h
    · replace h := h.2 c
      refine g_aload_n (n := 31) (i := 0) C dX9_off_30 rfl 0 rfl rfl ?_
      refine gf_X9_7 (n := 34) 1 C E (om_0 hZ) rfl dX9_off_31 rfl ?_
      refine g_iconst (n := 35) (2 : Int32) C dX9_off_34 (by decide) rfl ?_
      refine g_iload (n := 37) C dX9_off_35 4 rfl rfl ?_
      refine g_iadd (n := 38) C dX9_off_37 rfl ?_
      refine g_iald (n := 39) C E (om_1 hZ) h.1 dX9_off_38 rfl ?_
      replace h := h.2
      refine g_if_ne (n := 42) (tgt := 89) C dX9_off_39 (by decide) rfl (fun c => ?_) (fun c => ?_)
      · replace h := h.1 c
        refine g_iinc (n := 92) (v := (1 : Int32)) C dX9_off_89 4 rfl (by decide) (Nat.le_of_ble_eq_true rfl) rfl rfl (fun z6 ez6 => ?_)
        replace h := h z6 ez6
        refine g_goto (tgt := 21) C dX9_off_92 (by decide) ?_
        exact g_sub [1, 2, 3, 4, 0] rfl h
      · replace h := h.2 c
        refine g_aload_n (n := 43) (i := 0) C dX9_off_42 rfl 0 rfl rfl ?_
        refine g_callVv (n := 46) (kd := 9) C E (c_MD_tries hZ _  M _ h) yi_X9_tries wd_1041 rfl (om_0 hZ) (by decide) (Nat.le_of_ble_eq_true rfl) dX9_off_43 rfl rfl (fun M7 h => ?_)
        refine g_aload_n (n := 47) (i := 0) C dX9_off_46 rfl 0 rfl rfl ?_
        refine gf_X9_7 (n := 50) 1 C E (om_0 hZ) rfl dX9_off_47 rfl ?_
        refine g_bipush (n := 52) (53 : Int32) C dX9_off_50 (by decide) rfl ?_
        refine g_iload (n := 54) C dX9_off_52 4 rfl rfl ?_
        refine g_iadd (n := 55) C dX9_off_54 rfl ?_
        refine g_iconst (n := 56) (3 : Int32) C dX9_off_55 (by decide) rfl ?_
        refine g_iast (n := 57) C E (om_1 hZ) h.1 dX9_off_56 rfl (fun M8 eM8 => ?_)
        replace h := h.2 M8 eM8
        refine g_aload_n (n := 58) (i := 0) C dX9_off_57 rfl 0 rfl rfl ?_
        refine g_callVi (n := 61) (kd := 9) C E (c_MD_doneBy hZ _  M8 _ h) yi_X9_doneBy wd_1062 rfl (om_0 hZ) (by decide) (Nat.le_of_ble_eq_true rfl) dX9_off_58 rfl rfl (fun r10 M9 h => ?_)
        refine g_istore (n := 63) (i := 5) C dX9_off_61 (Nat.le_of_ble_eq_true rfl) rfl rfl (fun z11 ez11 => ?_)
        replace h := h z11 ez11
        refine g_iload (n := 65) C dX9_off_63 0 rfl rfl ?_
        refine g_iload_n (n := 66) (i := 3) C dX9_off_65 rfl 4 rfl rfl ?_
        refine g_icmp_ge (n := 69) (tgt := 74) C dX9_off_66 (by decide) rfl (fun c => ?_) (fun c => ?_)
        · replace h := h.1 c
          refine g_iload_n (n := 75) (i := 2) C dX9_off_74 rfl 3 rfl rfl ?_
          exact g_sub [1, 2, 4, 5, 0] rfl h
        · replace h := h.2 c
          refine g_iload (n := 71) C dX9_off_69 5 rfl rfl ?_
          refine g_goto (tgt := 75) C dX9_off_71 (by decide) ?_
          exact g_sub [1, 2, 4, 5, 0] rfl h
  have s75 : ∀ (M : Mem) (x75_3 : Int32) (x75_4 : Int32) (x75_5 : Int32) (s75_0 : Int32), B_MD_off_75 p1 post (fun (M : Mem) (x21_2 : Int32) (x21_3 : Int32) (x21_4 : Int32) => GS Z X 21 [(0, .ref (zb Z + 0)), (1, .int p1), (2, .int x21_2), (3, .int x21_3), (4, .int x21_4)] [] M) (fun (M : Mem) (x75_3 : Int32) (x75_4 : Int32) (x75_5 : Int32) (s75_0 : Int32) => GS Z X 75 [(0, .ref (zb Z + 0)), (1, .int p1), (3, .int x75_3), (4, .int x75_4), (5, .int x75_5)] [.int s75_0] M) M x75_3 x75_4 x75_5 s75_0 → GS Z X 75 [(0, .ref (zb Z + 0)), (1, .int p1), (3, .int x75_3), (4, .int x75_4), (5, .int x75_5)] [.int s75_0] M := by
    intro M x75_3 x75_4 x75_5 s75_0 h
    unfold B_MD_off_75 at h
    refine g_istore_n (n := 76) (i := 2) C dX9_off_75 rfl (Nat.le_of_ble_eq_true rfl) rfl rfl (fun z12 ez12 => ?_)
    replace h := h z12 ez12
    refine g_iload (n := 78) C dX9_off_76 5 rfl rfl ?_
    refine g_iload_n (n := 79) (i := 3) C dX9_off_78 rfl 3 rfl rfl ?_
    refine g_icmp_ge (n := 82) (tgt := 87) C dX9_off_79 (by decide) rfl (fun c => ?_) (fun c => ?_)
    · replace h := h.1 c
      refine g_iload_n (n := 88) (i := 3) C dX9_off_87 rfl 3 rfl rfl ?_
      refine g_istore_n (n := 89) (i := 3) C dX9_off_88 rfl (Nat.le_of_ble_eq_true rfl) rfl rfl (fun z13 ez13 => ?_)
      replace h := h z13 ez13
      refine g_iinc (n := 92) (v := (1 : Int32)) C dX9_off_89 4 rfl (by decide) (Nat.le_of_ble_eq_true rfl) rfl rfl (fun z14 ez14 => ?_)
      replace h := h z14 ez14
      refine g_goto (tgt := 21) C dX9_off_92 (by decide) ?_
      exact g_sub [3, 4, 2, 1, 0] rfl h
    · replace h := h.2 c
      refine g_iload (n := 84) C dX9_off_82 5 rfl rfl ?_
      refine g_goto (tgt := 88) C dX9_off_84 (by decide) ?_
      refine g_istore_n (n := 89) (i := 3) C dX9_off_88 rfl (Nat.le_of_ble_eq_true rfl) rfl rfl (fun z15 ez15 => ?_)
      replace h := h z15 ez15
      refine g_iinc (n := 92) (v := (1 : Int32)) C dX9_off_89 4 rfl (by decide) (Nat.le_of_ble_eq_true rfl) rfl rfl (fun z16 ez16 => ?_)
      replace h := h z16 ez16
      refine g_goto (tgt := 21) C dX9_off_92 (by decide) ?_
      exact g_sub [3, 4, 2, 1, 0] rfl h
  replace h := h (fun (M : Mem) (x21_2 : Int32) (x21_3 : Int32) (x21_4 : Int32) => GS Z X 21 [(0, .ref (zb Z + 0)), (1, .int p1), (2, .int x21_2), (3, .int x21_3), (4, .int x21_4)] [] M) (fun (M : Mem) (x75_3 : Int32) (x75_4 : Int32) (x75_5 : Int32) (s75_0 : Int32) => GS Z X 75 [(0, .ref (zb Z + 0)), (1, .int p1), (3, .int x75_3), (4, .int x75_4), (5, .int x75_5)] [.int s75_0] M) s21 s75
  unfold B_MD_off_i at h
  show GS Z X 0 [(0, .ref (zb Z + 0)), (1, .int p1)] [] M
  refine g_iload_n (n := 1) (i := 1) C dX9_off_0 rfl 1 rfl rfl ?_
  refine g_i2l (n := 2) C dX9_off_1 rfl ?_
  refine g_lconst (n := 3) (0 : Int64) C dX9_off_2 (by decide) rfl ?_
  refine g_lconst (n := 4) (1 : Int64) C dX9_off_3 (by decide) rfl ?_
  refine g_callSi (n := 7) C E (c_MD_in hZ _ p1.toInt64 (0 : Int64) (1 : Int64) M _ h) ys_X9_in wd_914 (by decide) (Nat.le_of_ble_eq_true rfl) dX9_off_4 rfl rfl (fun r2 M1 h => ?_)
  refine g_if_ne (n := 10) (tgt := 12) C dX9_off_7 (by decide) rfl (fun c => ?_) (fun c => ?_)
  · replace h := h.1 c
    refine g_bipush (n := 14) (-4 : Int32) C dX9_off_12 (by decide) rfl ?_
    refine g_istore_n (n := 15) (i := 2) C dX9_off_14 rfl (Nat.le_of_ble_eq_true rfl) rfl rfl (fun z3 ez3 => ?_)
    replace h := h z3 ez3
    refine g_ldc (n := 17) (1000000 : Int32) C wd_1057 dX9_off_15 rfl ?_
    refine g_istore_n (n := 18) (i := 3) C dX9_off_17 rfl (Nat.le_of_ble_eq_true rfl) rfl rfl (fun z4 ez4 => ?_)
    replace h := h z4 ez4
    refine g_iconst (n := 19) (0 : Int32) C dX9_off_18 (by decide) rfl ?_
    refine g_istore (n := 21) (i := 4) C dX9_off_19 (Nat.le_of_ble_eq_true rfl) rfl rfl (fun z5 ez5 => ?_)
    replace h := h z5 ez5
    exact g_sub [3, 4, 2, 1, 0] rfl h
  · replace h := h.2 c
    refine g_iconst (n := 11) (-1 : Int32) C dX9_off_10 (by decide) rfl ?_
    exact g_iret C hr hQ dX9_off_11 h
def B_MD_see_i (p1 : Int32) (p2 : Int32) (post : Int32 → Mem → Prop)  (M : Mem)  : Prop :=
  P_MD_isGuest M p1 (fun (r2 : Int32) (M1 : Mem) => (((r2 = 0) → post (-1 : Int32) M1) ∧ ((¬ r2 = 0) → P_MD_in M1 p2.toInt64 (0 : Int64) (200 : Int64) (fun (r4 : Int32) (M3 : Mem) => (((¬ r4 = 0) → (((¬ (M3 0 8) = (7 : Int32)) → vp_in (M3 0 8) 7 ∧ (∀ M5 : Mem, M5 = mset M3 6 ((M3 0 8)).toNatClampNeg p1 → vp_in (M5 0 8) 7 ∧ (∀ M6 : Mem, M6 = mset M5 7 ((M5 0 8)).toNatClampNeg p2 → ∀ M7 : Mem, M7 = mset M6 0 8 ((M6 0 8) + (1 : Int32)) → post (M7 0 8) M7))) ∧ (((M3 0 8) = (7 : Int32)) → post (-3 : Int32) M3))) ∧ ((r4 = 0) → post (-1 : Int32) M3))))))
def P_MD_see (M : Mem) (p1 : Int32) (p2 : Int32) (post : Int32 → Mem → Prop) : Prop := B_MD_see_i p1 p2 post M
set_option maxHeartbeats 4000000 in
set_option maxRecDepth 100000 in
theorem c_MD_see {Z : ZT} (hZ : IsM Z) (l : Launch) (p1 : Int32) (p2 : Int32) (M : Mem) (post : Int32 → Mem → Prop) (h : P_MD_see M p1 p2 post) : CtI Z l yX9_see cX9_see 3 (some .int) 2 46 [.ref (zb Z + 0), .int p1, .int p2] M post := by
  refine ctI (own := RX9) rfl (by decide) (Nat.le_of_ble_eq_true rfl) (fun X C E hr hQ => ?_)
  unfold P_MD_see at h
  unfold B_MD_see_i at h
  show GS Z X 0 [(0, .ref (zb Z + 0)), (1, .int p1), (2, .int p2)] [] M
  refine g_aload_n (n := 1) (i := 0) C dX9_see_0 rfl 0 rfl rfl ?_
  refine g_iload_n (n := 2) (i := 1) C dX9_see_1 rfl 1 rfl rfl ?_
  refine g_callVi (n := 5) (kd := 9) C E (c_MD_isGuest hZ _ p1 M _ h) yi_X9_isGuest wd_959 rfl (om_0 hZ) (by decide) (Nat.le_of_ble_eq_true rfl) dX9_see_2 rfl rfl (fun r2 M1 h => ?_)
  refine g_if_eq (n := 8) (tgt := 20) C dX9_see_5 (by decide) rfl (fun c => ?_) (fun c => ?_)
  · replace h := h.1 c
    refine g_iconst (n := 21) (-1 : Int32) C dX9_see_20 (by decide) rfl ?_
    exact g_iret C hr hQ dX9_see_21 h
  · replace h := h.2 c
    refine g_iload_n (n := 9) (i := 2) C dX9_see_8 rfl 2 rfl rfl ?_
    refine g_i2l (n := 10) C dX9_see_9 rfl ?_
    refine g_lconst (n := 11) (0 : Int64) C dX9_see_10 (by decide) rfl ?_
    refine g_ldc2 (n := 14) (200 : Int64) C wd_1086 dX9_see_11 rfl ?_
    refine g_callSi (n := 17) C E (c_MD_in hZ _ p2.toInt64 (0 : Int64) (200 : Int64) M1 _ h) ys_X9_in wd_914 (by decide) (Nat.le_of_ble_eq_true rfl) dX9_see_14 rfl rfl (fun r4 M3 h => ?_)
    refine g_if_ne (n := 20) (tgt := 22) C dX9_see_17 (by decide) rfl (fun c => ?_) (fun c => ?_)
    · replace h := h.1 c
      refine g_aload_n (n := 23) (i := 0) C dX9_see_22 rfl 0 rfl rfl ?_
      refine gf_X9_89 (n := 26) C E (om_0 hZ) dX9_see_23 rfl ?_
      refine g_bipush (n := 28) (7 : Int32) C dX9_see_26 (by decide) rfl ?_
      refine g_icmp_ne (n := 31) (tgt := 34) C dX9_see_28 (by decide) rfl (fun c => ?_) (fun c => ?_)
      · replace h := h.1 c
        refine g_aload_n (n := 35) (i := 0) C dX9_see_34 rfl 0 rfl rfl ?_
        refine gf_X9_25 (n := 38) 6 C E (om_0 hZ) rfl dX9_see_35 rfl ?_
        refine g_aload_n (n := 39) (i := 0) C dX9_see_38 rfl 0 rfl rfl ?_
        refine gf_X9_89 (n := 42) C E (om_0 hZ) dX9_see_39 rfl ?_
        refine g_iload_n (n := 43) (i := 1) C dX9_see_42 rfl 1 rfl rfl ?_
        refine g_iast (n := 44) C E (om_6 hZ) h.1 dX9_see_43 rfl (fun M5 eM5 => ?_)
        replace h := h.2 M5 eM5
        refine g_aload_n (n := 45) (i := 0) C dX9_see_44 rfl 0 rfl rfl ?_
        refine gf_X9_28 (n := 48) 7 C E (om_0 hZ) rfl dX9_see_45 rfl ?_
        refine g_aload_n (n := 49) (i := 0) C dX9_see_48 rfl 0 rfl rfl ?_
        refine gf_X9_89 (n := 52) C E (om_0 hZ) dX9_see_49 rfl ?_
        refine g_iload_n (n := 53) (i := 2) C dX9_see_52 rfl 2 rfl rfl ?_
        refine g_iast (n := 54) C E (om_7 hZ) h.1 dX9_see_53 rfl (fun M6 eM6 => ?_)
        replace h := h.2 M6 eM6
        refine g_aload_n (n := 55) (i := 0) C dX9_see_54 rfl 0 rfl rfl ?_
        refine g_dup (n := 56) C dX9_see_55 rfl rfl ?_
        refine gf_X9_89 (n := 59) C E (om_0 hZ) dX9_see_56 rfl ?_
        refine g_iconst (n := 60) (1 : Int32) C dX9_see_59 (by decide) rfl ?_
        refine g_iadd (n := 61) C dX9_see_60 rfl ?_
        refine gp_X9_89 (n := 64) C E (om_0 hZ) dX9_see_61 rfl (fun M7 eM7 => ?_)
        replace h := h M7 eM7
        refine g_aload_n (n := 65) (i := 0) C dX9_see_64 rfl 0 rfl rfl ?_
        refine gf_X9_89 (n := 68) C E (om_0 hZ) dX9_see_65 rfl ?_
        exact g_iret C hr hQ dX9_see_68 h
      · replace h := h.2 c
        refine g_bipush (n := 33) (-3 : Int32) C dX9_see_31 (by decide) rfl ?_
        exact g_iret C hr hQ dX9_see_33 h
    · replace h := h.2 c
      refine g_iconst (n := 21) (-1 : Int32) C dX9_see_20 (by decide) rfl ?_
      exact g_iret C hr hQ dX9_see_21 h
def B_MD_forget_i  (post : Int32 → Mem → Prop)  (M : Mem)  : Prop :=
  ∀ z1 : Int32, z1 = (M 0 8) → ∀ M2 : Mem, M2 = mset M 0 8 (0 : Int32) → post z1 M2
def P_MD_forget (M : Mem)  (post : Int32 → Mem → Prop) : Prop := B_MD_forget_i  post M
set_option maxHeartbeats 4000000 in
set_option maxRecDepth 100000 in
theorem c_MD_forget {Z : ZT} (hZ : IsM Z) (l : Launch)  (M : Mem) (post : Int32 → Mem → Prop) (h : P_MD_forget M  post) : CtI Z l yX9_forget cX9_forget 2 (some .int) 0 0 [.ref (zb Z + 0)] M post := by
  refine ctI (own := RX9) rfl (by decide) (Nat.le_of_ble_eq_true rfl) (fun X C E hr hQ => ?_)
  unfold P_MD_forget at h
  unfold B_MD_forget_i at h
  show GS Z X 0 [(0, .ref (zb Z + 0))] [] M
  refine g_aload_n (n := 1) (i := 0) C dX9_forget_0 rfl 0 rfl rfl ?_
  refine gf_X9_89 (n := 4) C E (om_0 hZ) dX9_forget_1 rfl ?_
  refine g_istore_n (n := 5) (i := 1) C dX9_forget_4 rfl (Nat.le_of_ble_eq_true rfl) rfl rfl (fun z1 ez1 => ?_)
  replace h := h z1 ez1
  refine g_aload_n (n := 6) (i := 0) C dX9_forget_5 rfl 1 rfl rfl ?_
  refine g_iconst (n := 7) (0 : Int32) C dX9_forget_6 (by decide) rfl ?_
  refine gp_X9_89 (n := 10) C E (om_0 hZ) dX9_forget_7 rfl (fun M2 eM2 => ?_)
  replace h := h M2 eM2
  refine g_iload_n (n := 11) (i := 1) C dX9_forget_10 rfl 0 rfl rfl ?_
  exact g_iret C hr hQ dX9_forget_11 h
def B_MD_areSo_i  (post : Int32 → Mem → Prop) (R15 : Mem → Int32 → Prop) (R82 : Mem → Int32 → Prop) (R144 : Mem → Int32 → Int32 → Prop) (R104 : Mem → Int32 → Int32 → Prop) (M : Mem)  : Prop :=
  P_MD_tries M (fun (M1 : Mem) => vp_in (52 : Int32) 612 ∧ (∀ M2 : Mem, M2 = mset M1 1 ((52 : Int32)).toNatClampNeg (-4 : Int32) → ∀ z3 : Int32, z3 = (0 : Int32) → (R15 M2 z3)))
def B_MD_areSo_15  (post : Int32 → Mem → Prop) (R15 : Mem → Int32 → Prop) (R82 : Mem → Int32 → Prop) (R144 : Mem → Int32 → Int32 → Prop) (R104 : Mem → Int32 → Int32 → Prop) (M : Mem) (x15_1 : Int32) : Prop :=
  ((((M 0 3) ≤ x15_1) → ∀ z4 : Int32, z4 = (0 : Int32) → (R82 M z4)) ∧ ((¬ (M 0 3) ≤ x15_1) → vp_in ((53 : Int32) + x15_1) 612 ∧ (∀ M5 : Mem, M5 = mset M 1 (((53 : Int32) + x15_1)).toNatClampNeg (0 : Int32) → vp_in ((74 : Int32) + x15_1) 612 ∧ (∀ M6 : Mem, M6 = mset M5 1 (((74 : Int32) + x15_1)).toNatClampNeg (0 : Int32) → vp_in ((81 : Int32) + x15_1) 612 ∧ (∀ M7 : Mem, M7 = mset M6 1 (((81 : Int32) + x15_1)).toNatClampNeg (-4 : Int32) → vp_in ((88 : Int32) + x15_1) 612 ∧ (∀ M8 : Mem, M8 = mset M7 1 (((88 : Int32) + x15_1)).toNatClampNeg (0 : Int32) → vp_in ((95 : Int32) + x15_1) 612 ∧ (∀ M9 : Mem, M9 = mset M8 1 (((95 : Int32) + x15_1)).toNatClampNeg (0 : Int32) → ∀ z10 : Int32, z10 = x15_1 + (1 : Int32) → (R15 M9 z10))))))))
def B_MD_areSo_82  (post : Int32 → Mem → Prop) (R15 : Mem → Int32 → Prop) (R82 : Mem → Int32 → Prop) (R144 : Mem → Int32 → Int32 → Prop) (R104 : Mem → Int32 → Int32 → Prop) (M : Mem) (x82_1 : Int32) : Prop :=
  ((((M 0 3) ≤ x82_1) → ∀ z11 : Int32, z11 = (1 : Int32) → ∀ z12 : Int32, z12 = (0 : Int32) → (R144 M z11 z12)) ∧ ((¬ (M 0 3) ≤ x82_1) → vp_in x82_1 8 ∧ (P_MD_comes M (51 : Int32) (M 14 (x82_1).toNatClampNeg) (fun (M13 : Mem) => ∀ z14 : Int32, z14 = (0 : Int32) → (R104 M13 x82_1 z14)))))
def B_MD_areSo_144  (post : Int32 → Mem → Prop) (R15 : Mem → Int32 → Prop) (R82 : Mem → Int32 → Prop) (R144 : Mem → Int32 → Int32 → Prop) (R104 : Mem → Int32 → Int32 → Prop) (M : Mem) (x144_1 : Int32) (x144_2 : Int32) : Prop :=
  ((((M 0 8) ≤ x144_2) → (narrow .boolean (.int x144_1) = .int x144_1 ∧ post x144_1 M)) ∧ ((¬ (M 0 8) ≤ x144_2) → (((x144_1 = 0) → ∀ z15 : Int32, z15 = (0 : Int32) → ∀ z16 : Int32, z16 = x144_2 + (1 : Int32) → (R144 M z15 z16)) ∧ ((¬ x144_1 = 0) → vp_in x144_2 7 ∧ (vp_in ((95 : Int32) + (M 6 (x144_2).toNatClampNeg)) 612 ∧ (vp_in x144_2 7 ∧ ((((¬ (M 1 (((95 : Int32) + (M 6 (x144_2).toNatClampNeg))).toNatClampNeg) = (M 7 (x144_2).toNatClampNeg)) → ∀ z17 : Int32, z17 = (0 : Int32) → ∀ z18 : Int32, z18 = x144_2 + (1 : Int32) → (R144 M z17 z18)) ∧ (((M 1 (((95 : Int32) + (M 6 (x144_2).toNatClampNeg))).toNatClampNeg) = (M 7 (x144_2).toNatClampNeg)) → ∀ z19 : Int32, z19 = (1 : Int32) → ∀ z20 : Int32, z20 = x144_2 + (1 : Int32) → (R144 M z19 z20))))))))))
def B_MD_areSo_104  (post : Int32 → Mem → Prop) (R15 : Mem → Int32 → Prop) (R82 : Mem → Int32 → Prop) (R144 : Mem → Int32 → Int32 → Prop) (R104 : Mem → Int32 → Int32 → Prop) (M : Mem) (x104_1 : Int32) (x104_2 : Int32) : Prop :=
  ((((M 0 3) ≤ x104_2) → P_MD_freesThose M (51 : Int32) (fun (M21 : Mem) => ∀ z22 : Int32, z22 = x104_1 + (1 : Int32) → (R82 M21 z22))) ∧ ((¬ (M 0 3) ≤ x104_2) → vp_in ((74 : Int32) + x104_2) 612 ∧ (∀ M23 : Mem, M23 = mset M 1 (((74 : Int32) + x104_2)).toNatClampNeg (0 : Int32) → ∀ z24 : Int32, z24 = x104_2 + (1 : Int32) → (R104 M23 x104_1 z24))))
def P_MD_areSo (M : Mem)  (post : Int32 → Mem → Prop) : Prop :=
  ∀ (R15 : Mem → Int32 → Prop) (R82 : Mem → Int32 → Prop) (R144 : Mem → Int32 → Int32 → Prop) (R104 : Mem → Int32 → Int32 → Prop), (∀ (M : Mem) (x15_1 : Int32), B_MD_areSo_15  post R15 R82 R144 R104 M x15_1 → R15 M x15_1) → (∀ (M : Mem) (x82_1 : Int32), B_MD_areSo_82  post R15 R82 R144 R104 M x82_1 → R82 M x82_1) → (∀ (M : Mem) (x144_1 : Int32) (x144_2 : Int32), B_MD_areSo_144  post R15 R82 R144 R104 M x144_1 x144_2 → R144 M x144_1 x144_2) → (∀ (M : Mem) (x104_1 : Int32) (x104_2 : Int32), B_MD_areSo_104  post R15 R82 R144 R104 M x104_1 x104_2 → R104 M x104_1 x104_2) → B_MD_areSo_i  post R15 R82 R144 R104 M
set_option maxHeartbeats 4000000 in
set_option maxRecDepth 100000 in
theorem c_MD_areSo {Z : ZT} (hZ : IsM Z) (l : Launch)  (M : Mem) (post : Int32 → Mem → Prop) (h : P_MD_areSo M  post) : CtI Z l yX9_areSo cX9_areSo 3 (some .boolean) 3 67 [.ref (zb Z + 0)] M post := by
  refine ctI (own := RX9) rfl (by decide) (Nat.le_of_ble_eq_true rfl) (fun X C E hr hQ => ?_)
  have s15 : ∀ (M : Mem) (x15_1 : Int32), B_MD_areSo_15  post (fun (M : Mem) (x15_1 : Int32) => GS Z X 15 [(0, .ref (zb Z + 0)), (1, .int x15_1)] [] M) (fun (M : Mem) (x82_1 : Int32) => GS Z X 82 [(0, .ref (zb Z + 0)), (1, .int x82_1)] [] M) (fun (M : Mem) (x144_1 : Int32) (x144_2 : Int32) => GS Z X 144 [(0, .ref (zb Z + 0)), (1, .int x144_1), (2, .int x144_2)] [] M) (fun (M : Mem) (x104_1 : Int32) (x104_2 : Int32) => GS Z X 104 [(0, .ref (zb Z + 0)), (1, .int x104_1), (2, .int x104_2)] [] M) M x15_1 → GS Z X 15 [(0, .ref (zb Z + 0)), (1, .int x15_1)] [] M := by
    intro M x15_1 h
    unfold B_MD_areSo_15 at h
    refine g_iload_n (n := 16) (i := 1) C dX9_areSo_15 rfl 1 rfl rfl ?_
    refine g_aload_n (n := 17) (i := 0) C dX9_areSo_16 rfl 0 rfl rfl ?_
    refine gf_X9_69 (n := 20) C E (om_0 hZ) dX9_areSo_17 rfl ?_
    refine g_icmp_ge (n := 23) (tgt := 80) C dX9_areSo_20 (by decide) rfl (fun c => ?_) (fun c => ?_)
    · replace h := h.1 c
      refine g_iconst (n := 81) (0 : Int32) C dX9_areSo_80 (by decide) rfl ?_
      refine g_istore_n (n := 82) (i := 1) C dX9_areSo_81 rfl (Nat.le_of_ble_eq_true rfl) rfl rfl (fun z4 ez4 => ?_)
      replace h := h z4 ez4
      exact g_sub [1, 0] rfl h
    · replace h := h.2 c
      refine g_aload_n (n := 24) (i := 0) C dX9_areSo_23 rfl 0 rfl rfl ?_
      refine gf_X9_7 (n := 27) 1 C E (om_0 hZ) rfl dX9_areSo_24 rfl ?_
      refine g_bipush (n := 29) (53 : Int32) C dX9_areSo_27 (by decide) rfl ?_
      refine g_iload_n (n := 30) (i := 1) C dX9_areSo_29 rfl 1 rfl rfl ?_
      refine g_iadd (n := 31) C dX9_areSo_30 rfl ?_
      refine g_iconst (n := 32) (0 : Int32) C dX9_areSo_31 (by decide) rfl ?_
      refine g_iast (n := 33) C E (om_1 hZ) h.1 dX9_areSo_32 rfl (fun M5 eM5 => ?_)
      replace h := h.2 M5 eM5
      refine g_aload_n (n := 34) (i := 0) C dX9_areSo_33 rfl 0 rfl rfl ?_
      refine gf_X9_7 (n := 37) 1 C E (om_0 hZ) rfl dX9_areSo_34 rfl ?_
      refine g_bipush (n := 39) (74 : Int32) C dX9_areSo_37 (by decide) rfl ?_
      refine g_iload_n (n := 40) (i := 1) C dX9_areSo_39 rfl 1 rfl rfl ?_
      refine g_iadd (n := 41) C dX9_areSo_40 rfl ?_
      refine g_iconst (n := 42) (0 : Int32) C dX9_areSo_41 (by decide) rfl ?_
      refine g_iast (n := 43) C E (om_1 hZ) h.1 dX9_areSo_42 rfl (fun M6 eM6 => ?_)
      replace h := h.2 M6 eM6
      refine g_aload_n (n := 44) (i := 0) C dX9_areSo_43 rfl 0 rfl rfl ?_
      refine gf_X9_7 (n := 47) 1 C E (om_0 hZ) rfl dX9_areSo_44 rfl ?_
      refine g_bipush (n := 49) (81 : Int32) C dX9_areSo_47 (by decide) rfl ?_
      refine g_iload_n (n := 50) (i := 1) C dX9_areSo_49 rfl 1 rfl rfl ?_
      refine g_iadd (n := 51) C dX9_areSo_50 rfl ?_
      refine g_bipush (n := 53) (-4 : Int32) C dX9_areSo_51 (by decide) rfl ?_
      refine g_iast (n := 54) C E (om_1 hZ) h.1 dX9_areSo_53 rfl (fun M7 eM7 => ?_)
      replace h := h.2 M7 eM7
      refine g_aload_n (n := 55) (i := 0) C dX9_areSo_54 rfl 0 rfl rfl ?_
      refine gf_X9_7 (n := 58) 1 C E (om_0 hZ) rfl dX9_areSo_55 rfl ?_
      refine g_bipush (n := 60) (88 : Int32) C dX9_areSo_58 (by decide) rfl ?_
      refine g_iload_n (n := 61) (i := 1) C dX9_areSo_60 rfl 1 rfl rfl ?_
      refine g_iadd (n := 62) C dX9_areSo_61 rfl ?_
      refine g_iconst (n := 63) (0 : Int32) C dX9_areSo_62 (by decide) rfl ?_
      refine g_iast (n := 64) C E (om_1 hZ) h.1 dX9_areSo_63 rfl (fun M8 eM8 => ?_)
      replace h := h.2 M8 eM8
      refine g_aload_n (n := 65) (i := 0) C dX9_areSo_64 rfl 0 rfl rfl ?_
      refine gf_X9_7 (n := 68) 1 C E (om_0 hZ) rfl dX9_areSo_65 rfl ?_
      refine g_bipush (n := 70) (95 : Int32) C dX9_areSo_68 (by decide) rfl ?_
      refine g_iload_n (n := 71) (i := 1) C dX9_areSo_70 rfl 1 rfl rfl ?_
      refine g_iadd (n := 72) C dX9_areSo_71 rfl ?_
      refine g_iconst (n := 73) (0 : Int32) C dX9_areSo_72 (by decide) rfl ?_
      refine g_iast (n := 74) C E (om_1 hZ) h.1 dX9_areSo_73 rfl (fun M9 eM9 => ?_)
      replace h := h.2 M9 eM9
      refine g_iinc (n := 77) (v := (1 : Int32)) C dX9_areSo_74 1 rfl (by decide) (Nat.le_of_ble_eq_true rfl) rfl rfl (fun z10 ez10 => ?_)
      replace h := h z10 ez10
      refine g_goto (tgt := 15) C dX9_areSo_77 (by decide) ?_
      exact g_sub [1, 0] rfl h
  have s82 : ∀ (M : Mem) (x82_1 : Int32), B_MD_areSo_82  post (fun (M : Mem) (x15_1 : Int32) => GS Z X 15 [(0, .ref (zb Z + 0)), (1, .int x15_1)] [] M) (fun (M : Mem) (x82_1 : Int32) => GS Z X 82 [(0, .ref (zb Z + 0)), (1, .int x82_1)] [] M) (fun (M : Mem) (x144_1 : Int32) (x144_2 : Int32) => GS Z X 144 [(0, .ref (zb Z + 0)), (1, .int x144_1), (2, .int x144_2)] [] M) (fun (M : Mem) (x104_1 : Int32) (x104_2 : Int32) => GS Z X 104 [(0, .ref (zb Z + 0)), (1, .int x104_1), (2, .int x104_2)] [] M) M x82_1 → GS Z X 82 [(0, .ref (zb Z + 0)), (1, .int x82_1)] [] M := by
    intro M x82_1 h
    unfold B_MD_areSo_82 at h
    refine g_iload_n (n := 83) (i := 1) C dX9_areSo_82 rfl 1 rfl rfl ?_
    refine g_aload_n (n := 84) (i := 0) C dX9_areSo_83 rfl 0 rfl rfl ?_
    refine gf_X9_69 (n := 87) C E (om_0 hZ) dX9_areSo_84 rfl ?_
    refine g_icmp_ge (n := 90) (tgt := 140) C dX9_areSo_87 (by decide) rfl (fun c => ?_) (fun c => ?_)
    · replace h := h.1 c
      refine g_iconst (n := 141) (1 : Int32) C dX9_areSo_140 (by decide) rfl ?_
      refine g_istore_n (n := 142) (i := 1) C dX9_areSo_141 rfl (Nat.le_of_ble_eq_true rfl) rfl rfl (fun z11 ez11 => ?_)
      replace h := h z11 ez11
      refine g_iconst (n := 143) (0 : Int32) C dX9_areSo_142 (by decide) rfl ?_
      refine g_istore_n (n := 144) (i := 2) C dX9_areSo_143 rfl (Nat.le_of_ble_eq_true rfl) rfl rfl (fun z12 ez12 => ?_)
      replace h := h z12 ez12
      exact g_sub [2, 1, 0] rfl h
    · replace h := h.2 c
      refine g_aload_n (n := 91) (i := 0) C dX9_areSo_90 rfl 0 rfl rfl ?_
      refine g_bipush (n := 93) (51 : Int32) C dX9_areSo_91 (by decide) rfl ?_
      refine g_aload_n (n := 94) (i := 0) C dX9_areSo_93 rfl 0 rfl rfl ?_
      refine gf_X9_49 (n := 97) 14 C E (om_0 hZ) rfl dX9_areSo_94 rfl ?_
      refine g_iload_n (n := 98) (i := 1) C dX9_areSo_97 rfl 1 rfl rfl ?_
      refine g_iald (n := 99) C E (om_14 hZ) h.1 dX9_areSo_98 rfl ?_
      replace h := h.2
      refine g_callVv (n := 102) (kd := 9) C E (c_MD_comes hZ _ (51 : Int32) (M 14 (x82_1).toNatClampNeg) M _ h) yi_X9_comes wd_985 rfl (om_0 hZ) (by decide) (Nat.le_of_ble_eq_true rfl) dX9_areSo_99 rfl rfl (fun M13 h => ?_)
      refine g_iconst (n := 103) (0 : Int32) C dX9_areSo_102 (by decide) rfl ?_
      refine g_istore_n (n := 104) (i := 2) C dX9_areSo_103 rfl (Nat.le_of_ble_eq_true rfl) rfl rfl (fun z14 ez14 => ?_)
      replace h := h z14 ez14
      exact g_sub [1, 2, 0] rfl h
  have s144 : ∀ (M : Mem) (x144_1 : Int32) (x144_2 : Int32), B_MD_areSo_144  post (fun (M : Mem) (x15_1 : Int32) => GS Z X 15 [(0, .ref (zb Z + 0)), (1, .int x15_1)] [] M) (fun (M : Mem) (x82_1 : Int32) => GS Z X 82 [(0, .ref (zb Z + 0)), (1, .int x82_1)] [] M) (fun (M : Mem) (x144_1 : Int32) (x144_2 : Int32) => GS Z X 144 [(0, .ref (zb Z + 0)), (1, .int x144_1), (2, .int x144_2)] [] M) (fun (M : Mem) (x104_1 : Int32) (x104_2 : Int32) => GS Z X 104 [(0, .ref (zb Z + 0)), (1, .int x104_1), (2, .int x104_2)] [] M) M x144_1 x144_2 → GS Z X 144 [(0, .ref (zb Z + 0)), (1, .int x144_1), (2, .int x144_2)] [] M := by
    intro M x144_1 x144_2 h
    unfold B_MD_areSo_144 at h
    refine g_iload_n (n := 145) (i := 2) C dX9_areSo_144 rfl 2 rfl rfl ?_
    refine g_aload_n (n := 146) (i := 0) C dX9_areSo_145 rfl 0 rfl rfl ?_
    refine gf_X9_89 (n := 149) C E (om_0 hZ) dX9_areSo_146 rfl ?_
    refine g_icmp_ge (n := 152) (tgt := 191) C dX9_areSo_149 (by decide) rfl (fun c => ?_) (fun c => ?_)
    · replace h := h.1 c
      refine g_iload_n (n := 192) (i := 1) C dX9_areSo_191 rfl 1 rfl rfl ?_
      exact g_zret C hr hQ dX9_areSo_192 h.1 h.2
    · replace h := h.2 c
      refine g_iload_n (n := 153) (i := 1) C dX9_areSo_152 rfl 1 rfl rfl ?_
      refine g_if_eq (n := 156) (tgt := 183) C dX9_areSo_153 (by decide) rfl (fun c => ?_) (fun c => ?_)
      · replace h := h.1 c
        refine g_iconst (n := 184) (0 : Int32) C dX9_areSo_183 (by decide) rfl ?_
        refine g_istore_n (n := 185) (i := 1) C dX9_areSo_184 rfl (Nat.le_of_ble_eq_true rfl) rfl rfl (fun z15 ez15 => ?_)
        replace h := h z15 ez15
        refine g_iinc (n := 188) (v := (1 : Int32)) C dX9_areSo_185 2 rfl (by decide) (Nat.le_of_ble_eq_true rfl) rfl rfl (fun z16 ez16 => ?_)
        replace h := h z16 ez16
        refine g_goto (tgt := 144) C dX9_areSo_188 (by decide) ?_
        exact g_sub [2, 1, 0] rfl h
      · replace h := h.2 c
        refine g_aload_n (n := 157) (i := 0) C dX9_areSo_156 rfl 0 rfl rfl ?_
        refine gf_X9_7 (n := 160) 1 C E (om_0 hZ) rfl dX9_areSo_157 rfl ?_
        refine g_bipush (n := 162) (95 : Int32) C dX9_areSo_160 (by decide) rfl ?_
        refine g_aload_n (n := 163) (i := 0) C dX9_areSo_162 rfl 0 rfl rfl ?_
        refine gf_X9_25 (n := 166) 6 C E (om_0 hZ) rfl dX9_areSo_163 rfl ?_
        refine g_iload_n (n := 167) (i := 2) C dX9_areSo_166 rfl 2 rfl rfl ?_
        refine g_iald (n := 168) C E (om_6 hZ) h.1 dX9_areSo_167 rfl ?_
        replace h := h.2
        refine g_iadd (n := 169) C dX9_areSo_168 rfl ?_
        refine g_iald (n := 170) C E (om_1 hZ) h.1 dX9_areSo_169 rfl ?_
        replace h := h.2
        refine g_aload_n (n := 171) (i := 0) C dX9_areSo_170 rfl 0 rfl rfl ?_
        refine gf_X9_28 (n := 174) 7 C E (om_0 hZ) rfl dX9_areSo_171 rfl ?_
        refine g_iload_n (n := 175) (i := 2) C dX9_areSo_174 rfl 2 rfl rfl ?_
        refine g_iald (n := 176) C E (om_7 hZ) h.1 dX9_areSo_175 rfl ?_
        replace h := h.2
        refine g_icmp_ne (n := 179) (tgt := 183) C dX9_areSo_176 (by decide) rfl (fun c => ?_) (fun c => ?_)
        · replace h := h.1 c
          refine g_iconst (n := 184) (0 : Int32) C dX9_areSo_183 (by decide) rfl ?_
          refine g_istore_n (n := 185) (i := 1) C dX9_areSo_184 rfl (Nat.le_of_ble_eq_true rfl) rfl rfl (fun z17 ez17 => ?_)
          replace h := h z17 ez17
          refine g_iinc (n := 188) (v := (1 : Int32)) C dX9_areSo_185 2 rfl (by decide) (Nat.le_of_ble_eq_true rfl) rfl rfl (fun z18 ez18 => ?_)
          replace h := h z18 ez18
          refine g_goto (tgt := 144) C dX9_areSo_188 (by decide) ?_
          exact g_sub [2, 1, 0] rfl h
        · replace h := h.2 c
          refine g_iconst (n := 180) (1 : Int32) C dX9_areSo_179 (by decide) rfl ?_
          refine g_goto (tgt := 184) C dX9_areSo_180 (by decide) ?_
          refine g_istore_n (n := 185) (i := 1) C dX9_areSo_184 rfl (Nat.le_of_ble_eq_true rfl) rfl rfl (fun z19 ez19 => ?_)
          replace h := h z19 ez19
          refine g_iinc (n := 188) (v := (1 : Int32)) C dX9_areSo_185 2 rfl (by decide) (Nat.le_of_ble_eq_true rfl) rfl rfl (fun z20 ez20 => ?_)
          replace h := h z20 ez20
          refine g_goto (tgt := 144) C dX9_areSo_188 (by decide) ?_
          exact g_sub [2, 1, 0] rfl h
  have s104 : ∀ (M : Mem) (x104_1 : Int32) (x104_2 : Int32), B_MD_areSo_104  post (fun (M : Mem) (x15_1 : Int32) => GS Z X 15 [(0, .ref (zb Z + 0)), (1, .int x15_1)] [] M) (fun (M : Mem) (x82_1 : Int32) => GS Z X 82 [(0, .ref (zb Z + 0)), (1, .int x82_1)] [] M) (fun (M : Mem) (x144_1 : Int32) (x144_2 : Int32) => GS Z X 144 [(0, .ref (zb Z + 0)), (1, .int x144_1), (2, .int x144_2)] [] M) (fun (M : Mem) (x104_1 : Int32) (x104_2 : Int32) => GS Z X 104 [(0, .ref (zb Z + 0)), (1, .int x104_1), (2, .int x104_2)] [] M) M x104_1 x104_2 → GS Z X 104 [(0, .ref (zb Z + 0)), (1, .int x104_1), (2, .int x104_2)] [] M := by
    intro M x104_1 x104_2 h
    unfold B_MD_areSo_104 at h
    refine g_iload_n (n := 105) (i := 2) C dX9_areSo_104 rfl 2 rfl rfl ?_
    refine g_aload_n (n := 106) (i := 0) C dX9_areSo_105 rfl 0 rfl rfl ?_
    refine gf_X9_69 (n := 109) C E (om_0 hZ) dX9_areSo_106 rfl ?_
    refine g_icmp_ge (n := 112) (tgt := 128) C dX9_areSo_109 (by decide) rfl (fun c => ?_) (fun c => ?_)
    · replace h := h.1 c
      refine g_aload_n (n := 129) (i := 0) C dX9_areSo_128 rfl 0 rfl rfl ?_
      refine g_bipush (n := 131) (51 : Int32) C dX9_areSo_129 (by decide) rfl ?_
      refine g_callVv (n := 134) (kd := 9) C E (c_MD_freesThose hZ _ (51 : Int32) M _ h) yi_X9_freesThose wd_993 rfl (om_0 hZ) (by decide) (Nat.le_of_ble_eq_true rfl) dX9_areSo_131 rfl rfl (fun M21 h => ?_)
      refine g_iinc (n := 137) (v := (1 : Int32)) C dX9_areSo_134 1 rfl (by decide) (Nat.le_of_ble_eq_true rfl) rfl rfl (fun z22 ez22 => ?_)
      replace h := h z22 ez22
      refine g_goto (tgt := 82) C dX9_areSo_137 (by decide) ?_
      exact g_sub [1, 0] rfl h
    · replace h := h.2 c
      refine g_aload_n (n := 113) (i := 0) C dX9_areSo_112 rfl 0 rfl rfl ?_
      refine gf_X9_7 (n := 116) 1 C E (om_0 hZ) rfl dX9_areSo_113 rfl ?_
      refine g_bipush (n := 118) (74 : Int32) C dX9_areSo_116 (by decide) rfl ?_
      refine g_iload_n (n := 119) (i := 2) C dX9_areSo_118 rfl 2 rfl rfl ?_
      refine g_iadd (n := 120) C dX9_areSo_119 rfl ?_
      refine g_iconst (n := 121) (0 : Int32) C dX9_areSo_120 (by decide) rfl ?_
      refine g_iast (n := 122) C E (om_1 hZ) h.1 dX9_areSo_121 rfl (fun M23 eM23 => ?_)
      replace h := h.2 M23 eM23
      refine g_iinc (n := 125) (v := (1 : Int32)) C dX9_areSo_122 2 rfl (by decide) (Nat.le_of_ble_eq_true rfl) rfl rfl (fun z24 ez24 => ?_)
      replace h := h z24 ez24
      refine g_goto (tgt := 104) C dX9_areSo_125 (by decide) ?_
      exact g_sub [1, 2, 0] rfl h
  replace h := h (fun (M : Mem) (x15_1 : Int32) => GS Z X 15 [(0, .ref (zb Z + 0)), (1, .int x15_1)] [] M) (fun (M : Mem) (x82_1 : Int32) => GS Z X 82 [(0, .ref (zb Z + 0)), (1, .int x82_1)] [] M) (fun (M : Mem) (x144_1 : Int32) (x144_2 : Int32) => GS Z X 144 [(0, .ref (zb Z + 0)), (1, .int x144_1), (2, .int x144_2)] [] M) (fun (M : Mem) (x104_1 : Int32) (x104_2 : Int32) => GS Z X 104 [(0, .ref (zb Z + 0)), (1, .int x104_1), (2, .int x104_2)] [] M) s15 s82 s144 s104
  unfold B_MD_areSo_i at h
  show GS Z X 0 [(0, .ref (zb Z + 0))] [] M
  refine g_aload_n (n := 1) (i := 0) C dX9_areSo_0 rfl 0 rfl rfl ?_
  refine g_callVv (n := 4) (kd := 9) C E (c_MD_tries hZ _  M _ h) yi_X9_tries wd_1041 rfl (om_0 hZ) (by decide) (Nat.le_of_ble_eq_true rfl) dX9_areSo_1 rfl rfl (fun M1 h => ?_)
  refine g_aload_n (n := 5) (i := 0) C dX9_areSo_4 rfl 0 rfl rfl ?_
  refine gf_X9_7 (n := 8) 1 C E (om_0 hZ) rfl dX9_areSo_5 rfl ?_
  refine g_bipush (n := 10) (52 : Int32) C dX9_areSo_8 (by decide) rfl ?_
  refine g_bipush (n := 12) (-4 : Int32) C dX9_areSo_10 (by decide) rfl ?_
  refine g_iast (n := 13) C E (om_1 hZ) h.1 dX9_areSo_12 rfl (fun M2 eM2 => ?_)
  replace h := h.2 M2 eM2
  refine g_iconst (n := 14) (0 : Int32) C dX9_areSo_13 (by decide) rfl ?_
  refine g_istore_n (n := 15) (i := 1) C dX9_areSo_14 rfl (Nat.le_of_ble_eq_true rfl) rfl rfl (fun z3 ez3 => ?_)
  replace h := h z3 ez3
  exact g_sub [1, 0] rfl h
def B_MD_manyOrders_i  (post : Int32 → Mem → Prop) (R11 : Mem → Int32 → Int32 → Prop) (R20 : Mem → Int32 → Int32 → Int32 → Int32 → Prop) (R114 : Mem → Int32 → Int32 → Int32 → Int32 → Prop) (R62 : Mem → Int32 → Int32 → Int32 → Prop) (R138 : Mem → Int32 → Int32 → Int32 → Prop) (M : Mem)  : Prop :=
  ∀ z1 : Int32, z1 = (0 : Int32) → ∀ z2 : Int32, z2 = (0 : Int32) → vp_in (0 : Int32) 8 ∧ (∀ M3 : Mem, M3 = mset M 14 ((0 : Int32)).toNatClampNeg (-1 : Int32) → (R11 M3 z1 z2))
def B_MD_manyOrders_11  (post : Int32 → Mem → Prop) (R11 : Mem → Int32 → Int32 → Prop) (R20 : Mem → Int32 → Int32 → Int32 → Int32 → Prop) (R114 : Mem → Int32 → Int32 → Int32 → Int32 → Prop) (R62 : Mem → Int32 → Int32 → Int32 → Prop) (R138 : Mem → Int32 → Int32 → Int32 → Prop) (M : Mem) (x11_1 : Int32) (x11_2 : Int32) : Prop :=
  (((x11_2 < 0) → post x11_1 M) ∧ ((¬ x11_2 < 0) → ∀ z4 : Int32, z4 = (0 : Int32) → ∀ z5 : Int32, z5 = (0 : Int32) → (R20 M x11_1 x11_2 z4 z5)))
def B_MD_manyOrders_20  (post : Int32 → Mem → Prop) (R11 : Mem → Int32 → Int32 → Prop) (R20 : Mem → Int32 → Int32 → Int32 → Int32 → Prop) (R114 : Mem → Int32 → Int32 → Int32 → Int32 → Prop) (R62 : Mem → Int32 → Int32 → Int32 → Prop) (R138 : Mem → Int32 → Int32 → Int32 → Prop) (M : Mem) (x20_1 : Int32) (x20_2 : Int32) (x20_3 : Int32) (x20_4 : Int32) : Prop :=
  (((x20_2 ≤ x20_4) → (((¬ x20_2 = (M 0 3)) → vp_in x20_2 8 ∧ (∀ z6 : Int32, z6 = ((M 14 (x20_2).toNatClampNeg) + (1 : Int32)) → (R114 M x20_1 x20_2 x20_3 z6))) ∧ ((x20_2 = (M 0 3)) → P_MD_areSo M (fun (r8 : Int32) (M7 : Mem) => (((r8 = 0) → ∀ z9 : Int32, z9 = x20_2 + (-1 : Int32) → (R11 M7 x20_1 z9)) ∧ ((¬ r8 = 0) → ∀ z10 : Int32, z10 = (0 : Int32) → (R62 M7 x20_1 x20_2 z10))))))) ∧ ((¬ x20_2 ≤ x20_4) → vp_in x20_4 8 ∧ (∀ z11 : Int32, z11 = (x20_3 ||| ((1 : Int32) <<< ((M 14 (x20_4).toNatClampNeg) &&& 31))) → ∀ z12 : Int32, z12 = x20_4 + (1 : Int32) → (R20 M x20_1 x20_2 z11 z12))))
def B_MD_manyOrders_114  (post : Int32 → Mem → Prop) (R11 : Mem → Int32 → Int32 → Prop) (R20 : Mem → Int32 → Int32 → Int32 → Int32 → Prop) (R114 : Mem → Int32 → Int32 → Int32 → Int32 → Prop) (R62 : Mem → Int32 → Int32 → Int32 → Prop) (R138 : Mem → Int32 → Int32 → Int32 → Prop) (M : Mem) (x114_1 : Int32) (x114_2 : Int32) (x114_3 : Int32) (x114_4 : Int32) : Prop :=
  ((((M 0 3) ≤ x114_4) → (R138 M x114_1 x114_2 x114_4)) ∧ ((¬ (M 0 3) ≤ x114_4) → P_MD_has M x114_3 x114_4 (fun (r14 : Int32) (M13 : Mem) => (((r14 = 0) → (R138 M13 x114_1 x114_2 x114_4)) ∧ ((¬ r14 = 0) → ∀ z15 : Int32, z15 = x114_4 + (1 : Int32) → (R114 M13 x114_1 x114_2 x114_3 z15))))))
def B_MD_manyOrders_62  (post : Int32 → Mem → Prop) (R11 : Mem → Int32 → Int32 → Prop) (R20 : Mem → Int32 → Int32 → Int32 → Int32 → Prop) (R114 : Mem → Int32 → Int32 → Int32 → Int32 → Prop) (R62 : Mem → Int32 → Int32 → Int32 → Prop) (R138 : Mem → Int32 → Int32 → Int32 → Prop) (M : Mem) (x62_1 : Int32) (x62_2 : Int32) (x62_4 : Int32) : Prop :=
  ((((M 0 3) ≤ x62_4) → ∀ z16 : Int32, z16 = x62_1 + (1 : Int32) → ∀ z17 : Int32, z17 = x62_2 + (-1 : Int32) → (R11 M z16 z17)) ∧ ((¬ (M 0 3) ≤ x62_4) → (((¬ x62_1 = 0) → ∀ z18 : Int32, z18 = x62_1 + (1 : Int32) → ∀ z19 : Int32, z19 = x62_2 + (-1 : Int32) → (R11 M z18 z19)) ∧ ((x62_1 = 0) → vp_in x62_4 8 ∧ (vp_in x62_4 7 ∧ (∀ M20 : Mem, M20 = mset M 15 (x62_4).toNatClampNeg (M 14 (x62_4).toNatClampNeg) → ∀ z21 : Int32, z21 = x62_4 + (1 : Int32) → (R62 M20 x62_1 x62_2 z21)))))))
def B_MD_manyOrders_138  (post : Int32 → Mem → Prop) (R11 : Mem → Int32 → Int32 → Prop) (R20 : Mem → Int32 → Int32 → Int32 → Int32 → Prop) (R114 : Mem → Int32 → Int32 → Int32 → Int32 → Prop) (R62 : Mem → Int32 → Int32 → Int32 → Prop) (R138 : Mem → Int32 → Int32 → Int32 → Prop) (M : Mem) (x138_1 : Int32) (x138_2 : Int32) (x138_4 : Int32) : Prop :=
  vp_in x138_2 8 ∧ (∀ M22 : Mem, M22 = mset M 14 (x138_2).toNatClampNeg x138_4 → (((¬ x138_4 = (M22 0 3)) → ∀ z23 : Int32, z23 = x138_2 + (1 : Int32) → vp_in z23 8 ∧ (∀ M24 : Mem, M24 = mset M22 14 (z23).toNatClampNeg (-1 : Int32) → (R11 M24 x138_1 z23))) ∧ ((x138_4 = (M22 0 3)) → ∀ z25 : Int32, z25 = x138_2 + (-1 : Int32) → (R11 M22 x138_1 z25))))
def P_MD_manyOrders (M : Mem)  (post : Int32 → Mem → Prop) : Prop :=
  ∀ (R11 : Mem → Int32 → Int32 → Prop) (R20 : Mem → Int32 → Int32 → Int32 → Int32 → Prop) (R114 : Mem → Int32 → Int32 → Int32 → Int32 → Prop) (R62 : Mem → Int32 → Int32 → Int32 → Prop) (R138 : Mem → Int32 → Int32 → Int32 → Prop), (∀ (M : Mem) (x11_1 : Int32) (x11_2 : Int32), B_MD_manyOrders_11  post R11 R20 R114 R62 R138 M x11_1 x11_2 → R11 M x11_1 x11_2) → (∀ (M : Mem) (x20_1 : Int32) (x20_2 : Int32) (x20_3 : Int32) (x20_4 : Int32), B_MD_manyOrders_20  post R11 R20 R114 R62 R138 M x20_1 x20_2 x20_3 x20_4 → R20 M x20_1 x20_2 x20_3 x20_4) → (∀ (M : Mem) (x114_1 : Int32) (x114_2 : Int32) (x114_3 : Int32) (x114_4 : Int32), B_MD_manyOrders_114  post R11 R20 R114 R62 R138 M x114_1 x114_2 x114_3 x114_4 → R114 M x114_1 x114_2 x114_3 x114_4) → (∀ (M : Mem) (x62_1 : Int32) (x62_2 : Int32) (x62_4 : Int32), B_MD_manyOrders_62  post R11 R20 R114 R62 R138 M x62_1 x62_2 x62_4 → R62 M x62_1 x62_2 x62_4) → (∀ (M : Mem) (x138_1 : Int32) (x138_2 : Int32) (x138_4 : Int32), B_MD_manyOrders_138  post R11 R20 R114 R62 R138 M x138_1 x138_2 x138_4 → R138 M x138_1 x138_2 x138_4) → B_MD_manyOrders_i  post R11 R20 R114 R62 R138 M
set_option maxHeartbeats 4000000 in
set_option maxRecDepth 100000 in
theorem c_MD_manyOrders {Z : ZT} (hZ : IsM Z) (l : Launch)  (M : Mem) (post : Int32 → Mem → Prop) (h : P_MD_manyOrders M  post) : CtI Z l yX9_manyOrders cX9_manyOrders 5 (some .int) 4 89 [.ref (zb Z + 0)] M post := by
  refine ctI (own := RX9) rfl (by decide) (Nat.le_of_ble_eq_true rfl) (fun X C E hr hQ => ?_)
  have s11 : ∀ (M : Mem) (x11_1 : Int32) (x11_2 : Int32), B_MD_manyOrders_11  post (fun (M : Mem) (x11_1 : Int32) (x11_2 : Int32) => GS Z X 11 [(0, .ref (zb Z + 0)), (1, .int x11_1), (2, .int x11_2)] [] M) (fun (M : Mem) (x20_1 : Int32) (x20_2 : Int32) (x20_3 : Int32) (x20_4 : Int32) => GS Z X 20 [(0, .ref (zb Z + 0)), (1, .int x20_1), (2, .int x20_2), (3, .int x20_3), (4, .int x20_4)] [] M) (fun (M : Mem) (x114_1 : Int32) (x114_2 : Int32) (x114_3 : Int32) (x114_4 : Int32) => GS Z X 114 [(0, .ref (zb Z + 0)), (1, .int x114_1), (2, .int x114_2), (3, .int x114_3), (4, .int x114_4)] [] M) (fun (M : Mem) (x62_1 : Int32) (x62_2 : Int32) (x62_4 : Int32) => GS Z X 62 [(0, .ref (zb Z + 0)), (1, .int x62_1), (2, .int x62_2), (4, .int x62_4)] [] M) (fun (M : Mem) (x138_1 : Int32) (x138_2 : Int32) (x138_4 : Int32) => GS Z X 138 [(0, .ref (zb Z + 0)), (1, .int x138_1), (2, .int x138_2), (4, .int x138_4)] [] M) M x11_1 x11_2 → GS Z X 11 [(0, .ref (zb Z + 0)), (1, .int x11_1), (2, .int x11_2)] [] M := by
    intro M x11_1 x11_2 h
    unfold B_MD_manyOrders_11 at h
    refine g_iload_n (n := 12) (i := 2) C dX9_manyOrders_11 rfl 2 rfl rfl ?_
    refine g_if_lt (n := 15) (tgt := 174) C dX9_manyOrders_12 (by decide) rfl (fun c => ?_) (fun c => ?_)
    · replace h := h.1 c
      refine g_iload_n (n := 175) (i := 1) C dX9_manyOrders_174 rfl 1 rfl rfl ?_
      exact g_iret C hr hQ dX9_manyOrders_175 h
    · replace h := h.2 c
      refine g_iconst (n := 16) (0 : Int32) C dX9_manyOrders_15 (by decide) rfl ?_
      refine g_istore_n (n := 17) (i := 3) C dX9_manyOrders_16 rfl (Nat.le_of_ble_eq_true rfl) rfl rfl (fun z4 ez4 => ?_)
      replace h := h z4 ez4
      refine g_iconst (n := 18) (0 : Int32) C dX9_manyOrders_17 (by decide) rfl ?_
      refine g_istore (n := 20) (i := 4) C dX9_manyOrders_18 (Nat.le_of_ble_eq_true rfl) rfl rfl (fun z5 ez5 => ?_)
      replace h := h z5 ez5
      exact g_sub [2, 3, 4, 1, 0] rfl h
  have s20 : ∀ (M : Mem) (x20_1 : Int32) (x20_2 : Int32) (x20_3 : Int32) (x20_4 : Int32), B_MD_manyOrders_20  post (fun (M : Mem) (x11_1 : Int32) (x11_2 : Int32) => GS Z X 11 [(0, .ref (zb Z + 0)), (1, .int x11_1), (2, .int x11_2)] [] M) (fun (M : Mem) (x20_1 : Int32) (x20_2 : Int32) (x20_3 : Int32) (x20_4 : Int32) => GS Z X 20 [(0, .ref (zb Z + 0)), (1, .int x20_1), (2, .int x20_2), (3, .int x20_3), (4, .int x20_4)] [] M) (fun (M : Mem) (x114_1 : Int32) (x114_2 : Int32) (x114_3 : Int32) (x114_4 : Int32) => GS Z X 114 [(0, .ref (zb Z + 0)), (1, .int x114_1), (2, .int x114_2), (3, .int x114_3), (4, .int x114_4)] [] M) (fun (M : Mem) (x62_1 : Int32) (x62_2 : Int32) (x62_4 : Int32) => GS Z X 62 [(0, .ref (zb Z + 0)), (1, .int x62_1), (2, .int x62_2), (4, .int x62_4)] [] M) (fun (M : Mem) (x138_1 : Int32) (x138_2 : Int32) (x138_4 : Int32) => GS Z X 138 [(0, .ref (zb Z + 0)), (1, .int x138_1), (2, .int x138_2), (4, .int x138_4)] [] M) M x20_1 x20_2 x20_3 x20_4 → GS Z X 20 [(0, .ref (zb Z + 0)), (1, .int x20_1), (2, .int x20_2), (3, .int x20_3), (4, .int x20_4)] [] M := by
    intro M x20_1 x20_2 x20_3 x20_4 h
    unfold B_MD_manyOrders_20 at h
    refine g_iload (n := 22) C dX9_manyOrders_20 4 rfl rfl ?_
    refine g_iload_n (n := 23) (i := 2) C dX9_manyOrders_22 rfl 2 rfl rfl ?_
    refine g_icmp_ge (n := 26) (tgt := 44) C dX9_manyOrders_23 (by decide) rfl (fun c => ?_) (fun c => ?_)
    · replace h := h.1 c
      refine g_iload_n (n := 45) (i := 2) C dX9_manyOrders_44 rfl 2 rfl rfl ?_
      refine g_aload_n (n := 46) (i := 0) C dX9_manyOrders_45 rfl 0 rfl rfl ?_
      refine gf_X9_69 (n := 49) C E (om_0 hZ) dX9_manyOrders_46 rfl ?_
      refine g_icmp_ne (n := 52) (tgt := 104) C dX9_manyOrders_49 (by decide) rfl (fun c => ?_) (fun c => ?_)
      · replace h := h.1 c
        refine g_aload_n (n := 105) (i := 0) C dX9_manyOrders_104 rfl 0 rfl rfl ?_
        refine gf_X9_49 (n := 108) 14 C E (om_0 hZ) rfl dX9_manyOrders_105 rfl ?_
        refine g_iload_n (n := 109) (i := 2) C dX9_manyOrders_108 rfl 2 rfl rfl ?_
        refine g_iald (n := 110) C E (om_14 hZ) h.1 dX9_manyOrders_109 rfl ?_
        replace h := h.2
        refine g_iconst (n := 111) (1 : Int32) C dX9_manyOrders_110 (by decide) rfl ?_
        refine g_iadd (n := 112) C dX9_manyOrders_111 rfl ?_
        refine g_istore (n := 114) (i := 4) C dX9_manyOrders_112 (Nat.le_of_ble_eq_true rfl) rfl rfl (fun z6 ez6 => ?_)
        replace h := h z6 ez6
        exact g_sub [1, 2, 3, 4, 0] rfl h
      · replace h := h.2 c
        refine g_aload_n (n := 53) (i := 0) C dX9_manyOrders_52 rfl 0 rfl rfl ?_
        refine g_callVi (n := 56) (kd := 9) C E (c_MD_areSo hZ _  M _ h) yi_X9_areSo wd_1100 rfl (om_0 hZ) (by decide) (Nat.le_of_ble_eq_true rfl) dX9_manyOrders_53 rfl rfl (fun r8 M7 h => ?_)
        refine g_if_eq (n := 59) (tgt := 98) C dX9_manyOrders_56 (by decide) rfl (fun c => ?_) (fun c => ?_)
        · replace h := h.1 c
          refine g_iinc (n := 101) (v := (-1 : Int32)) C dX9_manyOrders_98 2 rfl (by decide) (Nat.le_of_ble_eq_true rfl) rfl rfl (fun z9 ez9 => ?_)
          replace h := h z9 ez9
          refine g_goto (tgt := 171) C dX9_manyOrders_101 (by decide) ?_
          refine g_goto (tgt := 11) C dX9_manyOrders_171 (by decide) ?_
          exact g_sub [1, 2, 0] rfl h
        · replace h := h.2 c
          refine g_iconst (n := 60) (0 : Int32) C dX9_manyOrders_59 (by decide) rfl ?_
          refine g_istore (n := 62) (i := 4) C dX9_manyOrders_60 (Nat.le_of_ble_eq_true rfl) rfl rfl (fun z10 ez10 => ?_)
          replace h := h z10 ez10
          exact g_sub [1, 2, 3, 0] rfl h
    · replace h := h.2 c
      refine g_iload_n (n := 27) (i := 3) C dX9_manyOrders_26 rfl 3 rfl rfl ?_
      refine g_iconst (n := 28) (1 : Int32) C dX9_manyOrders_27 (by decide) rfl ?_
      refine g_aload_n (n := 29) (i := 0) C dX9_manyOrders_28 rfl 0 rfl rfl ?_
      refine gf_X9_49 (n := 32) 14 C E (om_0 hZ) rfl dX9_manyOrders_29 rfl ?_
      refine g_iload (n := 34) C dX9_manyOrders_32 4 rfl rfl ?_
      refine g_iald (n := 35) C E (om_14 hZ) h.1 dX9_manyOrders_34 rfl ?_
      replace h := h.2
      refine g_ishl (n := 36) C dX9_manyOrders_35 rfl ?_
      refine g_ior (n := 37) C dX9_manyOrders_36 rfl ?_
      refine g_istore_n (n := 38) (i := 3) C dX9_manyOrders_37 rfl (Nat.le_of_ble_eq_true rfl) rfl rfl (fun z11 ez11 => ?_)
      replace h := h z11 ez11
      refine g_iinc (n := 41) (v := (1 : Int32)) C dX9_manyOrders_38 4 rfl (by decide) (Nat.le_of_ble_eq_true rfl) rfl rfl (fun z12 ez12 => ?_)
      replace h := h z12 ez12
      refine g_goto (tgt := 20) C dX9_manyOrders_41 (by decide) ?_
      exact g_sub [2, 3, 4, 1, 0] rfl h
  have s114 : ∀ (M : Mem) (x114_1 : Int32) (x114_2 : Int32) (x114_3 : Int32) (x114_4 : Int32), B_MD_manyOrders_114  post (fun (M : Mem) (x11_1 : Int32) (x11_2 : Int32) => GS Z X 11 [(0, .ref (zb Z + 0)), (1, .int x11_1), (2, .int x11_2)] [] M) (fun (M : Mem) (x20_1 : Int32) (x20_2 : Int32) (x20_3 : Int32) (x20_4 : Int32) => GS Z X 20 [(0, .ref (zb Z + 0)), (1, .int x20_1), (2, .int x20_2), (3, .int x20_3), (4, .int x20_4)] [] M) (fun (M : Mem) (x114_1 : Int32) (x114_2 : Int32) (x114_3 : Int32) (x114_4 : Int32) => GS Z X 114 [(0, .ref (zb Z + 0)), (1, .int x114_1), (2, .int x114_2), (3, .int x114_3), (4, .int x114_4)] [] M) (fun (M : Mem) (x62_1 : Int32) (x62_2 : Int32) (x62_4 : Int32) => GS Z X 62 [(0, .ref (zb Z + 0)), (1, .int x62_1), (2, .int x62_2), (4, .int x62_4)] [] M) (fun (M : Mem) (x138_1 : Int32) (x138_2 : Int32) (x138_4 : Int32) => GS Z X 138 [(0, .ref (zb Z + 0)), (1, .int x138_1), (2, .int x138_2), (4, .int x138_4)] [] M) M x114_1 x114_2 x114_3 x114_4 → GS Z X 114 [(0, .ref (zb Z + 0)), (1, .int x114_1), (2, .int x114_2), (3, .int x114_3), (4, .int x114_4)] [] M := by
    intro M x114_1 x114_2 x114_3 x114_4 h
    unfold B_MD_manyOrders_114 at h
    refine g_iload (n := 116) C dX9_manyOrders_114 4 rfl rfl ?_
    refine g_aload_n (n := 117) (i := 0) C dX9_manyOrders_116 rfl 0 rfl rfl ?_
    refine gf_X9_69 (n := 120) C E (om_0 hZ) dX9_manyOrders_117 rfl ?_
    refine g_icmp_ge (n := 123) (tgt := 138) C dX9_manyOrders_120 (by decide) rfl (fun c => ?_) (fun c => ?_)
    · replace h := h.1 c
      exact g_sub [0, 1, 2, 4] rfl h
    · replace h := h.2 c
      refine g_iload_n (n := 124) (i := 3) C dX9_manyOrders_123 rfl 3 rfl rfl ?_
      refine g_iload (n := 126) C dX9_manyOrders_124 4 rfl rfl ?_
      refine g_callSi (n := 129) C E (c_MD_has hZ _ x114_3 x114_4 M _ h) ys_X9_has wd_1001 (by decide) (Nat.le_of_ble_eq_true rfl) dX9_manyOrders_126 rfl rfl (fun r14 M13 h => ?_)
      refine g_if_eq (n := 132) (tgt := 138) C dX9_manyOrders_129 (by decide) rfl (fun c => ?_) (fun c => ?_)
      · replace h := h.1 c
        exact g_sub [0, 1, 2, 4] rfl h
      · replace h := h.2 c
        refine g_iinc (n := 135) (v := (1 : Int32)) C dX9_manyOrders_132 4 rfl (by decide) (Nat.le_of_ble_eq_true rfl) rfl rfl (fun z15 ez15 => ?_)
        replace h := h z15 ez15
        refine g_goto (tgt := 114) C dX9_manyOrders_135 (by decide) ?_
        exact g_sub [1, 2, 3, 4, 0] rfl h
  have s62 : ∀ (M : Mem) (x62_1 : Int32) (x62_2 : Int32) (x62_4 : Int32), B_MD_manyOrders_62  post (fun (M : Mem) (x11_1 : Int32) (x11_2 : Int32) => GS Z X 11 [(0, .ref (zb Z + 0)), (1, .int x11_1), (2, .int x11_2)] [] M) (fun (M : Mem) (x20_1 : Int32) (x20_2 : Int32) (x20_3 : Int32) (x20_4 : Int32) => GS Z X 20 [(0, .ref (zb Z + 0)), (1, .int x20_1), (2, .int x20_2), (3, .int x20_3), (4, .int x20_4)] [] M) (fun (M : Mem) (x114_1 : Int32) (x114_2 : Int32) (x114_3 : Int32) (x114_4 : Int32) => GS Z X 114 [(0, .ref (zb Z + 0)), (1, .int x114_1), (2, .int x114_2), (3, .int x114_3), (4, .int x114_4)] [] M) (fun (M : Mem) (x62_1 : Int32) (x62_2 : Int32) (x62_4 : Int32) => GS Z X 62 [(0, .ref (zb Z + 0)), (1, .int x62_1), (2, .int x62_2), (4, .int x62_4)] [] M) (fun (M : Mem) (x138_1 : Int32) (x138_2 : Int32) (x138_4 : Int32) => GS Z X 138 [(0, .ref (zb Z + 0)), (1, .int x138_1), (2, .int x138_2), (4, .int x138_4)] [] M) M x62_1 x62_2 x62_4 → GS Z X 62 [(0, .ref (zb Z + 0)), (1, .int x62_1), (2, .int x62_2), (4, .int x62_4)] [] M := by
    intro M x62_1 x62_2 x62_4 h
    unfold B_MD_manyOrders_62 at h
    refine g_iload (n := 64) C dX9_manyOrders_62 3 rfl rfl ?_
    refine g_aload_n (n := 65) (i := 0) C dX9_manyOrders_64 rfl 0 rfl rfl ?_
    refine gf_X9_69 (n := 68) C E (om_0 hZ) dX9_manyOrders_65 rfl ?_
    refine g_icmp_ge (n := 71) (tgt := 95) C dX9_manyOrders_68 (by decide) rfl (fun c => ?_) (fun c => ?_)
    · replace h := h.1 c
      refine g_iinc (n := 98) (v := (1 : Int32)) C dX9_manyOrders_95 1 rfl (by decide) (Nat.le_of_ble_eq_true rfl) rfl rfl (fun z16 ez16 => ?_)
      replace h := h z16 ez16
      refine g_iinc (n := 101) (v := (-1 : Int32)) C dX9_manyOrders_98 2 rfl (by decide) (Nat.le_of_ble_eq_true rfl) rfl rfl (fun z17 ez17 => ?_)
      replace h := h z17 ez17
      refine g_goto (tgt := 171) C dX9_manyOrders_101 (by decide) ?_
      refine g_goto (tgt := 11) C dX9_manyOrders_171 (by decide) ?_
      exact g_sub [2, 1, 0] rfl h
    · replace h := h.2 c
      refine g_iload_n (n := 72) (i := 1) C dX9_manyOrders_71 rfl 1 rfl rfl ?_
      refine g_if_ne (n := 75) (tgt := 95) C dX9_manyOrders_72 (by decide) rfl (fun c => ?_) (fun c => ?_)
      · replace h := h.1 c
        refine g_iinc (n := 98) (v := (1 : Int32)) C dX9_manyOrders_95 1 rfl (by decide) (Nat.le_of_ble_eq_true rfl) rfl rfl (fun z18 ez18 => ?_)
        replace h := h z18 ez18
        refine g_iinc (n := 101) (v := (-1 : Int32)) C dX9_manyOrders_98 2 rfl (by decide) (Nat.le_of_ble_eq_true rfl) rfl rfl (fun z19 ez19 => ?_)
        replace h := h z19 ez19
        refine g_goto (tgt := 171) C dX9_manyOrders_101 (by decide) ?_
        refine g_goto (tgt := 11) C dX9_manyOrders_171 (by decide) ?_
        exact g_sub [2, 1, 0] rfl h
      · replace h := h.2 c
        refine g_aload_n (n := 76) (i := 0) C dX9_manyOrders_75 rfl 0 rfl rfl ?_
        refine gf_X9_52 (n := 79) 15 C E (om_0 hZ) rfl dX9_manyOrders_76 rfl ?_
        refine g_iload (n := 81) C dX9_manyOrders_79 3 rfl rfl ?_
        refine g_aload_n (n := 82) (i := 0) C dX9_manyOrders_81 rfl 0 rfl rfl ?_
        refine gf_X9_49 (n := 85) 14 C E (om_0 hZ) rfl dX9_manyOrders_82 rfl ?_
        refine g_iload (n := 87) C dX9_manyOrders_85 3 rfl rfl ?_
        refine g_iald (n := 88) C E (om_14 hZ) h.1 dX9_manyOrders_87 rfl ?_
        replace h := h.2
        refine g_iast (n := 89) C E (om_15 hZ) h.1 dX9_manyOrders_88 rfl (fun M20 eM20 => ?_)
        replace h := h.2 M20 eM20
        refine g_iinc (n := 92) (v := (1 : Int32)) C dX9_manyOrders_89 3 rfl (by decide) (Nat.le_of_ble_eq_true rfl) rfl rfl (fun z21 ez21 => ?_)
        replace h := h z21 ez21
        refine g_goto (tgt := 62) C dX9_manyOrders_92 (by decide) ?_
        exact g_sub [1, 2, 3, 0] rfl h
  have s138 : ∀ (M : Mem) (x138_1 : Int32) (x138_2 : Int32) (x138_4 : Int32), B_MD_manyOrders_138  post (fun (M : Mem) (x11_1 : Int32) (x11_2 : Int32) => GS Z X 11 [(0, .ref (zb Z + 0)), (1, .int x11_1), (2, .int x11_2)] [] M) (fun (M : Mem) (x20_1 : Int32) (x20_2 : Int32) (x20_3 : Int32) (x20_4 : Int32) => GS Z X 20 [(0, .ref (zb Z + 0)), (1, .int x20_1), (2, .int x20_2), (3, .int x20_3), (4, .int x20_4)] [] M) (fun (M : Mem) (x114_1 : Int32) (x114_2 : Int32) (x114_3 : Int32) (x114_4 : Int32) => GS Z X 114 [(0, .ref (zb Z + 0)), (1, .int x114_1), (2, .int x114_2), (3, .int x114_3), (4, .int x114_4)] [] M) (fun (M : Mem) (x62_1 : Int32) (x62_2 : Int32) (x62_4 : Int32) => GS Z X 62 [(0, .ref (zb Z + 0)), (1, .int x62_1), (2, .int x62_2), (4, .int x62_4)] [] M) (fun (M : Mem) (x138_1 : Int32) (x138_2 : Int32) (x138_4 : Int32) => GS Z X 138 [(0, .ref (zb Z + 0)), (1, .int x138_1), (2, .int x138_2), (4, .int x138_4)] [] M) M x138_1 x138_2 x138_4 → GS Z X 138 [(0, .ref (zb Z + 0)), (1, .int x138_1), (2, .int x138_2), (4, .int x138_4)] [] M := by
    intro M x138_1 x138_2 x138_4 h
    unfold B_MD_manyOrders_138 at h
    refine g_aload_n (n := 139) (i := 0) C dX9_manyOrders_138 rfl 0 rfl rfl ?_
    refine gf_X9_49 (n := 142) 14 C E (om_0 hZ) rfl dX9_manyOrders_139 rfl ?_
    refine g_iload_n (n := 143) (i := 2) C dX9_manyOrders_142 rfl 2 rfl rfl ?_
    refine g_iload (n := 145) C dX9_manyOrders_143 3 rfl rfl ?_
    refine g_iast (n := 146) C E (om_14 hZ) h.1 dX9_manyOrders_145 rfl (fun M22 eM22 => ?_)
    replace h := h.2 M22 eM22
    refine g_iload (n := 148) C dX9_manyOrders_146 3 rfl rfl ?_
    refine g_aload_n (n := 149) (i := 0) C dX9_manyOrders_148 rfl 0 rfl rfl ?_
    refine gf_X9_69 (n := 152) C E (om_0 hZ) dX9_manyOrders_149 rfl ?_
    refine g_icmp_ne (n := 155) (tgt := 161) C dX9_manyOrders_152 (by decide) rfl (fun c => ?_) (fun c => ?_)
    · replace h := h.1 c
      refine g_iinc (n := 164) (v := (1 : Int32)) C dX9_manyOrders_161 2 rfl (by decide) (Nat.le_of_ble_eq_true rfl) rfl rfl (fun z23 ez23 => ?_)
      replace h := h z23 ez23
      refine g_aload_n (n := 165) (i := 0) C dX9_manyOrders_164 rfl 1 rfl rfl ?_
      refine gf_X9_49 (n := 168) 14 C E (om_0 hZ) rfl dX9_manyOrders_165 rfl ?_
      refine g_iload_n (n := 169) (i := 2) C dX9_manyOrders_168 rfl 0 rfl rfl ?_
      refine g_iconst (n := 170) (-1 : Int32) C dX9_manyOrders_169 (by decide) rfl ?_
      refine g_iast (n := 171) C E (om_14 hZ) h.1 dX9_manyOrders_170 rfl (fun M24 eM24 => ?_)
      replace h := h.2 M24 eM24
      refine g_goto (tgt := 11) C dX9_manyOrders_171 (by decide) ?_
      exact g_sub [1, 2, 0] rfl h
    · replace h := h.2 c
      refine g_iinc (n := 158) (v := (-1 : Int32)) C dX9_manyOrders_155 2 rfl (by decide) (Nat.le_of_ble_eq_true rfl) rfl rfl (fun z25 ez25 => ?_)
      replace h := h z25 ez25
      refine g_goto (tgt := 171) C dX9_manyOrders_158 (by decide) ?_
      refine g_goto (tgt := 11) C dX9_manyOrders_171 (by decide) ?_
      exact g_sub [1, 2, 0] rfl h
  replace h := h (fun (M : Mem) (x11_1 : Int32) (x11_2 : Int32) => GS Z X 11 [(0, .ref (zb Z + 0)), (1, .int x11_1), (2, .int x11_2)] [] M) (fun (M : Mem) (x20_1 : Int32) (x20_2 : Int32) (x20_3 : Int32) (x20_4 : Int32) => GS Z X 20 [(0, .ref (zb Z + 0)), (1, .int x20_1), (2, .int x20_2), (3, .int x20_3), (4, .int x20_4)] [] M) (fun (M : Mem) (x114_1 : Int32) (x114_2 : Int32) (x114_3 : Int32) (x114_4 : Int32) => GS Z X 114 [(0, .ref (zb Z + 0)), (1, .int x114_1), (2, .int x114_2), (3, .int x114_3), (4, .int x114_4)] [] M) (fun (M : Mem) (x62_1 : Int32) (x62_2 : Int32) (x62_4 : Int32) => GS Z X 62 [(0, .ref (zb Z + 0)), (1, .int x62_1), (2, .int x62_2), (4, .int x62_4)] [] M) (fun (M : Mem) (x138_1 : Int32) (x138_2 : Int32) (x138_4 : Int32) => GS Z X 138 [(0, .ref (zb Z + 0)), (1, .int x138_1), (2, .int x138_2), (4, .int x138_4)] [] M) s11 s20 s114 s62 s138
  unfold B_MD_manyOrders_i at h
  show GS Z X 0 [(0, .ref (zb Z + 0))] [] M
  refine g_iconst (n := 1) (0 : Int32) C dX9_manyOrders_0 (by decide) rfl ?_
  refine g_istore_n (n := 2) (i := 1) C dX9_manyOrders_1 rfl (Nat.le_of_ble_eq_true rfl) rfl rfl (fun z1 ez1 => ?_)
  replace h := h z1 ez1
  refine g_iconst (n := 3) (0 : Int32) C dX9_manyOrders_2 (by decide) rfl ?_
  refine g_istore_n (n := 4) (i := 2) C dX9_manyOrders_3 rfl (Nat.le_of_ble_eq_true rfl) rfl rfl (fun z2 ez2 => ?_)
  replace h := h z2 ez2
  refine g_aload_n (n := 5) (i := 0) C dX9_manyOrders_4 rfl 2 rfl rfl ?_
  refine gf_X9_49 (n := 8) 14 C E (om_0 hZ) rfl dX9_manyOrders_5 rfl ?_
  refine g_iconst (n := 9) (0 : Int32) C dX9_manyOrders_8 (by decide) rfl ?_
  refine g_iconst (n := 10) (-1 : Int32) C dX9_manyOrders_9 (by decide) rfl ?_
  refine g_iast (n := 11) C E (om_14 hZ) h.1 dX9_manyOrders_10 rfl (fun M3 eM3 => ?_)
  replace h := h.2 M3 eM3
  exact g_sub [2, 1, 0] rfl h
def B_MD_orders_i (p1 : Int32) (post : Int32 → Mem → Prop)  (M : Mem)  : Prop :=
  P_MD_in M p1.toInt64 (-1 : Int64) ((M 0 3) - (1 : Int32)).toInt64 (fun (r2 : Int32) (M1 : Mem) => (((¬ r2 = 0) → P_MD_manyOrders M1 (fun (r4 : Int32) (M3 : Mem) => ∀ z5 : Int32, z5 = r4 → (((0 ≤ p1) → (((¬ z5 = 0) → vp_in p1 7 ∧ (post (M3 15 (p1).toNatClampNeg) M3)) ∧ ((z5 = 0) → post (-4 : Int32) M3))) ∧ ((¬ 0 ≤ p1) → post z5 M3)))) ∧ ((r2 = 0) → post (-1 : Int32) M1)))
def P_MD_orders (M : Mem) (p1 : Int32) (post : Int32 → Mem → Prop) : Prop := B_MD_orders_i p1 post M
set_option maxHeartbeats 4000000 in
set_option maxRecDepth 100000 in
theorem c_MD_orders {Z : ZT} (hZ : IsM Z) (l : Launch) (p1 : Int32) (M : Mem) (post : Int32 → Mem → Prop) (h : P_MD_orders M p1 post) : CtI Z l yX9_orders cX9_orders 3 (some .int) 5 113 [.ref (zb Z + 0), .int p1] M post := by
  refine ctI (own := RX9) rfl (by decide) (Nat.le_of_ble_eq_true rfl) (fun X C E hr hQ => ?_)
  unfold P_MD_orders at h
  unfold B_MD_orders_i at h
  show GS Z X 0 [(0, .ref (zb Z + 0)), (1, .int p1)] [] M
  refine g_iload_n (n := 1) (i := 1) C dX9_orders_0 rfl 1 rfl rfl ?_
  refine g_i2l (n := 2) C dX9_orders_1 rfl ?_
  refine g_ldc2 (n := 5) (-1 : Int64) C wd_1095 dX9_orders_2 rfl ?_
  refine g_aload_n (n := 6) (i := 0) C dX9_orders_5 rfl 0 rfl rfl ?_
  refine gf_X9_69 (n := 9) C E (om_0 hZ) dX9_orders_6 rfl ?_
  refine g_iconst (n := 10) (1 : Int32) C dX9_orders_9 (by decide) rfl ?_
  refine g_isub (n := 11) C dX9_orders_10 rfl ?_
  refine g_i2l (n := 12) C dX9_orders_11 rfl ?_
  refine g_callSi (n := 15) C E (c_MD_in hZ _ p1.toInt64 (-1 : Int64) ((M 0 3) - (1 : Int32)).toInt64 M _ h) ys_X9_in wd_914 (by decide) (Nat.le_of_ble_eq_true rfl) dX9_orders_12 rfl rfl (fun r2 M1 h => ?_)
  refine g_if_ne (n := 18) (tgt := 20) C dX9_orders_15 (by decide) rfl (fun c => ?_) (fun c => ?_)
  · replace h := h.1 c
    refine g_aload_n (n := 21) (i := 0) C dX9_orders_20 rfl 0 rfl rfl ?_
    refine g_callVi (n := 24) (kd := 9) C E (c_MD_manyOrders hZ _  M1 _ h) yi_X9_manyOrders wd_1096 rfl (om_0 hZ) (by decide) (Nat.le_of_ble_eq_true rfl) dX9_orders_21 rfl rfl (fun r4 M3 h => ?_)
    refine g_istore_n (n := 25) (i := 2) C dX9_orders_24 rfl (Nat.le_of_ble_eq_true rfl) rfl rfl (fun z5 ez5 => ?_)
    replace h := h z5 ez5
    refine g_iload_n (n := 26) (i := 1) C dX9_orders_25 rfl 2 rfl rfl ?_
    refine g_if_ge (n := 29) (tgt := 33) C dX9_orders_26 (by decide) rfl (fun c => ?_) (fun c => ?_)
    · replace h := h.1 c
      refine g_iload_n (n := 34) (i := 2) C dX9_orders_33 rfl 0 rfl rfl ?_
      refine g_if_ne (n := 37) (tgt := 42) C dX9_orders_34 (by decide) rfl (fun c => ?_) (fun c => ?_)
      · replace h := h.1 c
        refine g_aload_n (n := 43) (i := 0) C dX9_orders_42 rfl 1 rfl rfl ?_
        refine gf_X9_52 (n := 46) 15 C E (om_0 hZ) rfl dX9_orders_43 rfl ?_
        refine g_iload_n (n := 47) (i := 1) C dX9_orders_46 rfl 2 rfl rfl ?_
        refine g_iald (n := 48) C E (om_15 hZ) h.1 dX9_orders_47 rfl ?_
        replace h := h.2
        exact g_iret C hr hQ dX9_orders_48 h
      · replace h := h.2 c
        refine g_bipush (n := 39) (-4 : Int32) C dX9_orders_37 (by decide) rfl ?_
        refine g_goto (tgt := 48) C dX9_orders_39 (by decide) ?_
        exact g_iret C hr hQ dX9_orders_48 h
    · replace h := h.2 c
      refine g_iload_n (n := 30) (i := 2) C dX9_orders_29 rfl 0 rfl rfl ?_
      refine g_goto (tgt := 48) C dX9_orders_30 (by decide) ?_
      exact g_iret C hr hQ dX9_orders_48 h
  · replace h := h.2 c
    refine g_iconst (n := 19) (-1 : Int32) C dX9_orders_18 (by decide) rfl ?_
    exact g_iret C hr hQ dX9_orders_19 h
def B_MD_absent_i (p1 : Int32) (p2 : Int32) (p3 : Int32) (post : Int32 → Mem → Prop) (R41 : Mem → Int32 → Int32 → Int32 → Prop) (R82 : Mem → Int32 → Int32 → Int32 → Prop) (R266 : Mem → Int32 → Int32 → Int32 → Int32 → Prop) (R103 : Mem → Int32 → Int32 → Int32 → Int32 → Int32 → Prop) (R209 : Mem → Int32 → Int32 → Int32 → Int32 → Int32 → Prop) (R144 : Mem → Int32 → Int32 → Int32 → Int32 → Int32 → Int32 → Prop) (M : Mem)  : Prop :=
  P_MD_isGuest M p1 (fun (r2 : Int32) (M1 : Mem) => (((r2 = 0) → post (-1 : Int32) M1) ∧ ((¬ r2 = 0) → P_MD_in M1 p2.toInt64 (0 : Int64) (10 : Int64) (fun (r4 : Int32) (M3 : Mem) => (((r4 = 0) → post (-1 : Int32) M3) ∧ ((¬ r4 = 0) → P_MD_in M3 p3.toInt64 (0 : Int64) (1 : Int64) (fun (r6 : Int32) (M5 : Mem) => (((¬ r6 = 0) → ∀ z7 : Int32, z7 = (0 : Int32) → ∀ z8 : Int32, z8 = (1 : Int32) → ∀ z9 : Int32, z9 = (0 : Int32) → (R41 M5 z7 z8 z9)) ∧ ((r6 = 0) → post (-1 : Int32) M5)))))))))
def B_MD_absent_41 (p1 : Int32) (p2 : Int32) (p3 : Int32) (post : Int32 → Mem → Prop) (R41 : Mem → Int32 → Int32 → Int32 → Prop) (R82 : Mem → Int32 → Int32 → Int32 → Prop) (R266 : Mem → Int32 → Int32 → Int32 → Int32 → Prop) (R103 : Mem → Int32 → Int32 → Int32 → Int32 → Int32 → Prop) (R209 : Mem → Int32 → Int32 → Int32 → Int32 → Int32 → Prop) (R144 : Mem → Int32 → Int32 → Int32 → Int32 → Int32 → Int32 → Prop) (M : Mem) (x41_4 : Int32) (x41_5 : Int32) (x41_6 : Int32) : Prop :=
  ((((M 0 3) ≤ x41_6) → ∀ z10 : Int32, z10 = (0 : Int32) → (R82 M x41_4 x41_5 z10)) ∧ ((¬ (M 0 3) ≤ x41_6) → vp_in ((2 : Int32) + x41_6) 612 ∧ ((((¬ (M 1 (((2 : Int32) + x41_6)).toNatClampNeg) = 0) → ∀ z11 : Int32, z11 = (x41_5 * (1 : Int32)) → ∀ z12 : Int32, z12 = x41_6 + (1 : Int32) → (R41 M x41_4 z11 z12)) ∧ (((M 1 (((2 : Int32) + x41_6)).toNatClampNeg) = 0) → ∀ z13 : Int32, z13 = (x41_5 * (10 : Int32)) → ∀ z14 : Int32, z14 = x41_6 + (1 : Int32) → (R41 M x41_4 z13 z14))))))
def B_MD_absent_82 (p1 : Int32) (p2 : Int32) (p3 : Int32) (post : Int32 → Mem → Prop) (R41 : Mem → Int32 → Int32 → Int32 → Prop) (R82 : Mem → Int32 → Int32 → Int32 → Prop) (R266 : Mem → Int32 → Int32 → Int32 → Int32 → Prop) (R103 : Mem → Int32 → Int32 → Int32 → Int32 → Int32 → Prop) (R209 : Mem → Int32 → Int32 → Int32 → Int32 → Int32 → Prop) (R144 : Mem → Int32 → Int32 → Int32 → Int32 → Int32 → Int32 → Prop) (M : Mem) (x82_4 : Int32) (x82_5 : Int32) (x82_6 : Int32) : Prop :=
  (((((1 : Int32) <<< ((M 0 3) &&& 31)) ≤ x82_6) → ∀ z15 : Int32, z15 = x82_4 → ∀ z16 : Int32, z16 = x82_5 → (R266 M x82_4 x82_5 z15 z16)) ∧ ((¬ ((1 : Int32) <<< ((M 0 3) &&& 31)) ≤ x82_6) → ∀ z17 : Int32, z17 = (1 : Int32) → P_MD_tries M (fun (M18 : Mem) => ∀ z19 : Int32, z19 = (0 : Int32) → (R103 M18 x82_4 x82_5 x82_6 z17 z19))))
def B_MD_absent_266 (p1 : Int32) (p2 : Int32) (p3 : Int32) (post : Int32 → Mem → Prop) (R41 : Mem → Int32 → Int32 → Int32 → Prop) (R82 : Mem → Int32 → Int32 → Int32 → Prop) (R266 : Mem → Int32 → Int32 → Int32 → Int32 → Prop) (R103 : Mem → Int32 → Int32 → Int32 → Int32 → Int32 → Prop) (R209 : Mem → Int32 → Int32 → Int32 → Int32 → Int32 → Prop) (R144 : Mem → Int32 → Int32 → Int32 → Int32 → Int32 → Int32 → Prop) (M : Mem) (x266_4 : Int32) (x266_5 : Int32) (x266_6 : Int32) (x266_7 : Int32) : Prop :=
  (((x266_7 = 0) → (((¬ p3 = 0) → (¬ x266_6 = 0) ∧ (post (x266_5 / x266_6) M)) ∧ ((p3 = 0) → (¬ x266_6 = 0) ∧ (post (x266_4 / x266_6) M)))) ∧ ((¬ x266_7 = 0) → (¬ x266_7 = 0) ∧ (∀ z20 : Int32, z20 = (x266_6 - x266_6 / x266_7 * x266_7) → ∀ z21 : Int32, z21 = x266_7 → ∀ z22 : Int32, z22 = z20 → (R266 M x266_4 x266_5 z21 z22))))
def B_MD_absent_103 (p1 : Int32) (p2 : Int32) (p3 : Int32) (post : Int32 → Mem → Prop) (R41 : Mem → Int32 → Int32 → Int32 → Prop) (R82 : Mem → Int32 → Int32 → Int32 → Prop) (R266 : Mem → Int32 → Int32 → Int32 → Int32 → Prop) (R103 : Mem → Int32 → Int32 → Int32 → Int32 → Int32 → Prop) (R209 : Mem → Int32 → Int32 → Int32 → Int32 → Int32 → Prop) (R144 : Mem → Int32 → Int32 → Int32 → Int32 → Int32 → Int32 → Prop) (M : Mem) (x103_4 : Int32) (x103_5 : Int32) (x103_6 : Int32) (x103_7 : Int32) (x103_8 : Int32) : Prop :=
  ((((M 0 3) ≤ x103_8) → (((x103_7 ≤ 0) → ∀ z23 : Int32, z23 = x103_6 + (1 : Int32) → (R82 M x103_4 x103_5 z23)) ∧ ((¬ x103_7 ≤ 0) → ∀ z24 : Int32, z24 = (0 : Int32) → (R209 M x103_4 x103_5 x103_6 x103_7 z24)))) ∧ ((¬ (M 0 3) ≤ x103_8) → vp_in ((2 : Int32) + x103_8) 612 ∧ ((((¬ (M 1 (((2 : Int32) + x103_8)).toNatClampNeg) = 0) → P_MD_has M x103_6 x103_8 (fun (r26 : Int32) (M25 : Mem) => (((r26 = 0) → ∀ z27 : Int32, z27 = (x103_7 * (1 : Int32)) → ∀ z28 : Int32, z28 = x103_8 + (1 : Int32) → (R103 M25 x103_4 x103_5 x103_6 z27 z28)) ∧ ((¬ r26 = 0) → ∀ z29 : Int32, z29 = (x103_7 * (0 : Int32)) → ∀ z30 : Int32, z30 = x103_8 + (1 : Int32) → (R103 M25 x103_4 x103_5 x103_6 z29 z30))))) ∧ (((M 1 (((2 : Int32) + x103_8)).toNatClampNeg) = 0) → P_MD_has M x103_6 x103_8 (fun (r32 : Int32) (M31 : Mem) => (((r32 = 0) → (R144 M31 x103_4 x103_5 x103_6 x103_8 ((10 : Int32) - p2) x103_7)) ∧ ((¬ r32 = 0) → (R144 M31 x103_4 x103_5 x103_6 x103_8 p2 x103_7)))))))))
def B_MD_absent_209 (p1 : Int32) (p2 : Int32) (p3 : Int32) (post : Int32 → Mem → Prop) (R41 : Mem → Int32 → Int32 → Int32 → Prop) (R82 : Mem → Int32 → Int32 → Int32 → Prop) (R266 : Mem → Int32 → Int32 → Int32 → Int32 → Prop) (R103 : Mem → Int32 → Int32 → Int32 → Int32 → Int32 → Prop) (R209 : Mem → Int32 → Int32 → Int32 → Int32 → Int32 → Prop) (R144 : Mem → Int32 → Int32 → Int32 → Int32 → Int32 → Int32 → Prop) (M : Mem) (x209_4 : Int32) (x209_5 : Int32) (x209_6 : Int32) (x209_7 : Int32) (x209_8 : Int32) : Prop :=
  ((((99 : Int32) ≤ x209_8) → vp_in ((53 : Int32) + p1) 612 ∧ ((((¬ (M 1 (((53 : Int32) + p1)).toNatClampNeg) = (2 : Int32)) → ∀ z33 : Int32, z33 = (x209_4 + (0 : Int32)) → ∀ z34 : Int32, z34 = x209_6 + (1 : Int32) → (R82 M z33 x209_5 z34)) ∧ (((M 1 (((53 : Int32) + p1)).toNatClampNeg) = (2 : Int32)) → ∀ z35 : Int32, z35 = (x209_4 + x209_7) → ∀ z36 : Int32, z36 = x209_6 + (1 : Int32) → (R82 M z35 x209_5 z36))))) ∧ ((¬ (99 : Int32) ≤ x209_8) → P_MD_passes M (51 : Int32) (fun (M37 : Mem) => ∀ z38 : Int32, z38 = x209_8 + (1 : Int32) → (R209 M37 x209_4 x209_5 x209_6 x209_7 z38))))
def B_MD_absent_144 (p1 : Int32) (p2 : Int32) (p3 : Int32) (post : Int32 → Mem → Prop) (R41 : Mem → Int32 → Int32 → Int32 → Prop) (R82 : Mem → Int32 → Int32 → Int32 → Prop) (R266 : Mem → Int32 → Int32 → Int32 → Int32 → Prop) (R103 : Mem → Int32 → Int32 → Int32 → Int32 → Int32 → Prop) (R209 : Mem → Int32 → Int32 → Int32 → Int32 → Int32 → Prop) (R144 : Mem → Int32 → Int32 → Int32 → Int32 → Int32 → Int32 → Prop) (M : Mem) (x144_4 : Int32) (x144_5 : Int32) (x144_6 : Int32) (x144_8 : Int32) (s144_0 : Int32) (s144_1 : Int32) : Prop :=
  ∀ z39 : Int32, z39 = (s144_1 * s144_0) → P_MD_has M x144_6 x144_8 (fun (r41 : Int32) (M40 : Mem) => (((r41 = 0) → vp_in ((53 : Int32) + x144_8) 612 ∧ (∀ M42 : Mem, M42 = mset M40 1 (((53 : Int32) + x144_8)).toNatClampNeg (0 : Int32) → ∀ z43 : Int32, z43 = x144_8 + (1 : Int32) → (R103 M42 x144_4 x144_5 x144_6 z39 z43))) ∧ ((¬ r41 = 0) → vp_in ((53 : Int32) + x144_8) 612 ∧ (∀ M44 : Mem, M44 = mset M40 1 (((53 : Int32) + x144_8)).toNatClampNeg (3 : Int32) → ∀ z45 : Int32, z45 = x144_8 + (1 : Int32) → (R103 M44 x144_4 x144_5 x144_6 z39 z45)))))
def P_MD_absent (M : Mem) (p1 : Int32) (p2 : Int32) (p3 : Int32) (post : Int32 → Mem → Prop) : Prop :=
  ∀ (R41 : Mem → Int32 → Int32 → Int32 → Prop) (R82 : Mem → Int32 → Int32 → Int32 → Prop) (R266 : Mem → Int32 → Int32 → Int32 → Int32 → Prop) (R103 : Mem → Int32 → Int32 → Int32 → Int32 → Int32 → Prop) (R209 : Mem → Int32 → Int32 → Int32 → Int32 → Int32 → Prop) (R144 : Mem → Int32 → Int32 → Int32 → Int32 → Int32 → Int32 → Prop), (∀ (M : Mem) (x41_4 : Int32) (x41_5 : Int32) (x41_6 : Int32), B_MD_absent_41 p1 p2 p3 post R41 R82 R266 R103 R209 R144 M x41_4 x41_5 x41_6 → R41 M x41_4 x41_5 x41_6) → (∀ (M : Mem) (x82_4 : Int32) (x82_5 : Int32) (x82_6 : Int32), B_MD_absent_82 p1 p2 p3 post R41 R82 R266 R103 R209 R144 M x82_4 x82_5 x82_6 → R82 M x82_4 x82_5 x82_6) → (∀ (M : Mem) (x266_4 : Int32) (x266_5 : Int32) (x266_6 : Int32) (x266_7 : Int32), B_MD_absent_266 p1 p2 p3 post R41 R82 R266 R103 R209 R144 M x266_4 x266_5 x266_6 x266_7 → R266 M x266_4 x266_5 x266_6 x266_7) → (∀ (M : Mem) (x103_4 : Int32) (x103_5 : Int32) (x103_6 : Int32) (x103_7 : Int32) (x103_8 : Int32), B_MD_absent_103 p1 p2 p3 post R41 R82 R266 R103 R209 R144 M x103_4 x103_5 x103_6 x103_7 x103_8 → R103 M x103_4 x103_5 x103_6 x103_7 x103_8) → (∀ (M : Mem) (x209_4 : Int32) (x209_5 : Int32) (x209_6 : Int32) (x209_7 : Int32) (x209_8 : Int32), B_MD_absent_209 p1 p2 p3 post R41 R82 R266 R103 R209 R144 M x209_4 x209_5 x209_6 x209_7 x209_8 → R209 M x209_4 x209_5 x209_6 x209_7 x209_8) → (∀ (M : Mem) (x144_4 : Int32) (x144_5 : Int32) (x144_6 : Int32) (x144_8 : Int32) (s144_0 : Int32) (s144_1 : Int32), B_MD_absent_144 p1 p2 p3 post R41 R82 R266 R103 R209 R144 M x144_4 x144_5 x144_6 x144_8 s144_0 s144_1 → R144 M x144_4 x144_5 x144_6 x144_8 s144_0 s144_1) → B_MD_absent_i p1 p2 p3 post R41 R82 R266 R103 R209 R144 M
set_option maxHeartbeats 4000000 in
set_option maxRecDepth 100000 in
theorem c_MD_absent {Z : ZT} (hZ : IsM Z) (l : Launch) (p1 : Int32) (p2 : Int32) (p3 : Int32) (M : Mem) (post : Int32 → Mem → Prop) (h : P_MD_absent M p1 p2 p3 post) : CtI Z l yX9_absent cX9_absent 9 (some .int) 4 89 [.ref (zb Z + 0), .int p1, .int p2, .int p3] M post := by
  refine ctI (own := RX9) rfl (by decide) (Nat.le_of_ble_eq_true rfl) (fun X C E hr hQ => ?_)
  have s41 : ∀ (M : Mem) (x41_4 : Int32) (x41_5 : Int32) (x41_6 : Int32), B_MD_absent_41 p1 p2 p3 post (fun (M : Mem) (x41_4 : Int32) (x41_5 : Int32) (x41_6 : Int32) => GS Z X 41 [(0, .ref (zb Z + 0)), (1, .int p1), (2, .int p2), (3, .int p3), (4, .int x41_4), (5, .int x41_5), (6, .int x41_6)] [] M) (fun (M : Mem) (x82_4 : Int32) (x82_5 : Int32) (x82_6 : Int32) => GS Z X 82 [(0, .ref (zb Z + 0)), (1, .int p1), (2, .int p2), (3, .int p3), (4, .int x82_4), (5, .int x82_5), (6, .int x82_6)] [] M) (fun (M : Mem) (x266_4 : Int32) (x266_5 : Int32) (x266_6 : Int32) (x266_7 : Int32) => GS Z X 266 [(3, .int p3), (4, .int x266_4), (5, .int x266_5), (6, .int x266_6), (7, .int x266_7)] [] M) (fun (M : Mem) (x103_4 : Int32) (x103_5 : Int32) (x103_6 : Int32) (x103_7 : Int32) (x103_8 : Int32) => GS Z X 103 [(0, .ref (zb Z + 0)), (1, .int p1), (2, .int p2), (3, .int p3), (4, .int x103_4), (5, .int x103_5), (6, .int x103_6), (7, .int x103_7), (8, .int x103_8)] [] M) (fun (M : Mem) (x209_4 : Int32) (x209_5 : Int32) (x209_6 : Int32) (x209_7 : Int32) (x209_8 : Int32) => GS Z X 209 [(0, .ref (zb Z + 0)), (1, .int p1), (2, .int p2), (3, .int p3), (4, .int x209_4), (5, .int x209_5), (6, .int x209_6), (7, .int x209_7), (8, .int x209_8)] [] M) (fun (M : Mem) (x144_4 : Int32) (x144_5 : Int32) (x144_6 : Int32) (x144_8 : Int32) (s144_0 : Int32) (s144_1 : Int32) => GS Z X 144 [(0, .ref (zb Z + 0)), (1, .int p1), (2, .int p2), (3, .int p3), (4, .int x144_4), (5, .int x144_5), (6, .int x144_6), (8, .int x144_8)] [.int s144_0, .int s144_1] M) M x41_4 x41_5 x41_6 → GS Z X 41 [(0, .ref (zb Z + 0)), (1, .int p1), (2, .int p2), (3, .int p3), (4, .int x41_4), (5, .int x41_5), (6, .int x41_6)] [] M := by
    intro M x41_4 x41_5 x41_6 h
    unfold B_MD_absent_41 at h
    refine g_iload (n := 43) C dX9_absent_41 6 rfl rfl ?_
    refine g_aload_n (n := 44) (i := 0) C dX9_absent_43 rfl 0 rfl rfl ?_
    refine gf_X9_69 (n := 47) C E (om_0 hZ) dX9_absent_44 rfl ?_
    refine g_icmp_ge (n := 50) (tgt := 79) C dX9_absent_47 (by decide) rfl (fun c => ?_) (fun c => ?_)
    · replace h := h.1 c
      refine g_iconst (n := 80) (0 : Int32) C dX9_absent_79 (by decide) rfl ?_
      refine g_istore (n := 82) (i := 6) C dX9_absent_80 (Nat.le_of_ble_eq_true rfl) rfl rfl (fun z10 ez10 => ?_)
      replace h := h z10 ez10
      exact g_sub [1, 2, 3, 4, 5, 6, 0] rfl h
    · replace h := h.2 c
      refine g_iload (n := 52) C dX9_absent_50 5 rfl rfl ?_
      refine g_aload_n (n := 53) (i := 0) C dX9_absent_52 rfl 0 rfl rfl ?_
      refine gf_X9_7 (n := 56) 1 C E (om_0 hZ) rfl dX9_absent_53 rfl ?_
      refine g_iconst (n := 57) (2 : Int32) C dX9_absent_56 (by decide) rfl ?_
      refine g_iload (n := 59) C dX9_absent_57 6 rfl rfl ?_
      refine g_iadd (n := 60) C dX9_absent_59 rfl ?_
      refine g_iald (n := 61) C E (om_1 hZ) h.1 dX9_absent_60 rfl ?_
      replace h := h.2
      refine g_if_ne (n := 64) (tgt := 69) C dX9_absent_61 (by decide) rfl (fun c => ?_) (fun c => ?_)
      · replace h := h.1 c
        refine g_iconst (n := 70) (1 : Int32) C dX9_absent_69 (by decide) rfl ?_
        refine g_imul (n := 71) C dX9_absent_70 rfl ?_
        refine g_istore (n := 73) (i := 5) C dX9_absent_71 (Nat.le_of_ble_eq_true rfl) rfl rfl (fun z11 ez11 => ?_)
        replace h := h z11 ez11
        refine g_iinc (n := 76) (v := (1 : Int32)) C dX9_absent_73 6 rfl (by decide) (Nat.le_of_ble_eq_true rfl) rfl rfl (fun z12 ez12 => ?_)
        replace h := h z12 ez12
        refine g_goto (tgt := 41) C dX9_absent_76 (by decide) ?_
        exact g_sub [2, 3, 4, 5, 6, 1, 0] rfl h
      · replace h := h.2 c
        refine g_bipush (n := 66) (10 : Int32) C dX9_absent_64 (by decide) rfl ?_
        refine g_goto (tgt := 70) C dX9_absent_66 (by decide) ?_
        refine g_imul (n := 71) C dX9_absent_70 rfl ?_
        refine g_istore (n := 73) (i := 5) C dX9_absent_71 (Nat.le_of_ble_eq_true rfl) rfl rfl (fun z13 ez13 => ?_)
        replace h := h z13 ez13
        refine g_iinc (n := 76) (v := (1 : Int32)) C dX9_absent_73 6 rfl (by decide) (Nat.le_of_ble_eq_true rfl) rfl rfl (fun z14 ez14 => ?_)
        replace h := h z14 ez14
        refine g_goto (tgt := 41) C dX9_absent_76 (by decide) ?_
        exact g_sub [2, 3, 4, 5, 6, 1, 0] rfl h
  have s82 : ∀ (M : Mem) (x82_4 : Int32) (x82_5 : Int32) (x82_6 : Int32), B_MD_absent_82 p1 p2 p3 post (fun (M : Mem) (x41_4 : Int32) (x41_5 : Int32) (x41_6 : Int32) => GS Z X 41 [(0, .ref (zb Z + 0)), (1, .int p1), (2, .int p2), (3, .int p3), (4, .int x41_4), (5, .int x41_5), (6, .int x41_6)] [] M) (fun (M : Mem) (x82_4 : Int32) (x82_5 : Int32) (x82_6 : Int32) => GS Z X 82 [(0, .ref (zb Z + 0)), (1, .int p1), (2, .int p2), (3, .int p3), (4, .int x82_4), (5, .int x82_5), (6, .int x82_6)] [] M) (fun (M : Mem) (x266_4 : Int32) (x266_5 : Int32) (x266_6 : Int32) (x266_7 : Int32) => GS Z X 266 [(3, .int p3), (4, .int x266_4), (5, .int x266_5), (6, .int x266_6), (7, .int x266_7)] [] M) (fun (M : Mem) (x103_4 : Int32) (x103_5 : Int32) (x103_6 : Int32) (x103_7 : Int32) (x103_8 : Int32) => GS Z X 103 [(0, .ref (zb Z + 0)), (1, .int p1), (2, .int p2), (3, .int p3), (4, .int x103_4), (5, .int x103_5), (6, .int x103_6), (7, .int x103_7), (8, .int x103_8)] [] M) (fun (M : Mem) (x209_4 : Int32) (x209_5 : Int32) (x209_6 : Int32) (x209_7 : Int32) (x209_8 : Int32) => GS Z X 209 [(0, .ref (zb Z + 0)), (1, .int p1), (2, .int p2), (3, .int p3), (4, .int x209_4), (5, .int x209_5), (6, .int x209_6), (7, .int x209_7), (8, .int x209_8)] [] M) (fun (M : Mem) (x144_4 : Int32) (x144_5 : Int32) (x144_6 : Int32) (x144_8 : Int32) (s144_0 : Int32) (s144_1 : Int32) => GS Z X 144 [(0, .ref (zb Z + 0)), (1, .int p1), (2, .int p2), (3, .int p3), (4, .int x144_4), (5, .int x144_5), (6, .int x144_6), (8, .int x144_8)] [.int s144_0, .int s144_1] M) M x82_4 x82_5 x82_6 → GS Z X 82 [(0, .ref (zb Z + 0)), (1, .int p1), (2, .int p2), (3, .int p3), (4, .int x82_4), (5, .int x82_5), (6, .int x82_6)] [] M := by
    intro M x82_4 x82_5 x82_6 h
    unfold B_MD_absent_82 at h
    refine g_iload (n := 84) C dX9_absent_82 6 rfl rfl ?_
    refine g_iconst (n := 85) (1 : Int32) C dX9_absent_84 (by decide) rfl ?_
    refine g_aload_n (n := 86) (i := 0) C dX9_absent_85 rfl 0 rfl rfl ?_
    refine gf_X9_69 (n := 89) C E (om_0 hZ) dX9_absent_86 rfl ?_
    refine g_ishl (n := 90) C dX9_absent_89 rfl ?_
    refine g_icmp_ge (n := 93) (tgt := 258) C dX9_absent_90 (by decide) rfl (fun c => ?_) (fun c => ?_)
    · replace h := h.1 c
      refine g_iload (n := 260) C dX9_absent_258 4 rfl rfl ?_
      refine g_istore (n := 262) (i := 6) C dX9_absent_260 (Nat.le_of_ble_eq_true rfl) rfl rfl (fun z15 ez15 => ?_)
      replace h := h z15 ez15
      refine g_iload (n := 264) C dX9_absent_262 6 rfl rfl ?_
      refine g_istore (n := 266) (i := 7) C dX9_absent_264 (Nat.le_of_ble_eq_true rfl) rfl rfl (fun z16 ez16 => ?_)
      replace h := h z16 ez16
      exact g_sub [5, 6, 7, 1, 0] rfl h
    · replace h := h.2 c
      refine g_iconst (n := 94) (1 : Int32) C dX9_absent_93 (by decide) rfl ?_
      refine g_istore (n := 96) (i := 7) C dX9_absent_94 (Nat.le_of_ble_eq_true rfl) rfl rfl (fun z17 ez17 => ?_)
      replace h := h z17 ez17
      refine g_aload_n (n := 97) (i := 0) C dX9_absent_96 rfl 1 rfl rfl ?_
      refine g_callVv (n := 100) (kd := 9) C E (c_MD_tries hZ _  M _ h) yi_X9_tries wd_1041 rfl (om_0 hZ) (by decide) (Nat.le_of_ble_eq_true rfl) dX9_absent_97 rfl rfl (fun M18 h => ?_)
      refine g_iconst (n := 101) (0 : Int32) C dX9_absent_100 (by decide) rfl ?_
      refine g_istore (n := 103) (i := 8) C dX9_absent_101 (Nat.le_of_ble_eq_true rfl) rfl rfl (fun z19 ez19 => ?_)
      replace h := h z19 ez19
      exact g_sub [2, 3, 4, 5, 6, 7, 8, 1, 0] rfl h
  have s266 : ∀ (M : Mem) (x266_4 : Int32) (x266_5 : Int32) (x266_6 : Int32) (x266_7 : Int32), B_MD_absent_266 p1 p2 p3 post (fun (M : Mem) (x41_4 : Int32) (x41_5 : Int32) (x41_6 : Int32) => GS Z X 41 [(0, .ref (zb Z + 0)), (1, .int p1), (2, .int p2), (3, .int p3), (4, .int x41_4), (5, .int x41_5), (6, .int x41_6)] [] M) (fun (M : Mem) (x82_4 : Int32) (x82_5 : Int32) (x82_6 : Int32) => GS Z X 82 [(0, .ref (zb Z + 0)), (1, .int p1), (2, .int p2), (3, .int p3), (4, .int x82_4), (5, .int x82_5), (6, .int x82_6)] [] M) (fun (M : Mem) (x266_4 : Int32) (x266_5 : Int32) (x266_6 : Int32) (x266_7 : Int32) => GS Z X 266 [(3, .int p3), (4, .int x266_4), (5, .int x266_5), (6, .int x266_6), (7, .int x266_7)] [] M) (fun (M : Mem) (x103_4 : Int32) (x103_5 : Int32) (x103_6 : Int32) (x103_7 : Int32) (x103_8 : Int32) => GS Z X 103 [(0, .ref (zb Z + 0)), (1, .int p1), (2, .int p2), (3, .int p3), (4, .int x103_4), (5, .int x103_5), (6, .int x103_6), (7, .int x103_7), (8, .int x103_8)] [] M) (fun (M : Mem) (x209_4 : Int32) (x209_5 : Int32) (x209_6 : Int32) (x209_7 : Int32) (x209_8 : Int32) => GS Z X 209 [(0, .ref (zb Z + 0)), (1, .int p1), (2, .int p2), (3, .int p3), (4, .int x209_4), (5, .int x209_5), (6, .int x209_6), (7, .int x209_7), (8, .int x209_8)] [] M) (fun (M : Mem) (x144_4 : Int32) (x144_5 : Int32) (x144_6 : Int32) (x144_8 : Int32) (s144_0 : Int32) (s144_1 : Int32) => GS Z X 144 [(0, .ref (zb Z + 0)), (1, .int p1), (2, .int p2), (3, .int p3), (4, .int x144_4), (5, .int x144_5), (6, .int x144_6), (8, .int x144_8)] [.int s144_0, .int s144_1] M) M x266_4 x266_5 x266_6 x266_7 → GS Z X 266 [(3, .int p3), (4, .int x266_4), (5, .int x266_5), (6, .int x266_6), (7, .int x266_7)] [] M := by
    intro M x266_4 x266_5 x266_6 x266_7 h
    unfold B_MD_absent_266 at h
    refine g_iload (n := 268) C dX9_absent_266 4 rfl rfl ?_
    refine g_if_eq (n := 271) (tgt := 289) C dX9_absent_268 (by decide) rfl (fun c => ?_) (fun c => ?_)
    · replace h := h.1 c
      refine g_iload_n (n := 290) (i := 3) C dX9_absent_289 rfl 0 rfl rfl ?_
      refine g_if_ne (n := 293) (tgt := 301) C dX9_absent_290 (by decide) rfl (fun c => ?_) (fun c => ?_)
      · replace h := h.1 c
        refine g_iload (n := 303) C dX9_absent_301 2 rfl rfl ?_
        refine g_iload (n := 305) C dX9_absent_303 3 rfl rfl ?_
        refine g_idiv (n := 306) C dX9_absent_305 h.1 rfl ?_
        replace h := h.2
        exact g_iret C hr hQ dX9_absent_306 h
      · replace h := h.2 c
        refine g_iload (n := 295) C dX9_absent_293 1 rfl rfl ?_
        refine g_iload (n := 297) C dX9_absent_295 3 rfl rfl ?_
        refine g_idiv (n := 298) C dX9_absent_297 h.1 rfl ?_
        replace h := h.2
        refine g_goto (tgt := 306) C dX9_absent_298 (by decide) ?_
        exact g_iret C hr hQ dX9_absent_306 h
    · replace h := h.2 c
      refine g_iload (n := 273) C dX9_absent_271 3 rfl rfl ?_
      refine g_iload (n := 275) C dX9_absent_273 4 rfl rfl ?_
      refine g_irem (n := 276) C dX9_absent_275 h.1 rfl ?_
      replace h := h.2
      refine g_istore (n := 278) (i := 8) C dX9_absent_276 (Nat.le_of_ble_eq_true rfl) rfl rfl (fun z20 ez20 => ?_)
      replace h := h z20 ez20
      refine g_iload (n := 280) C dX9_absent_278 5 rfl rfl ?_
      refine g_istore (n := 282) (i := 6) C dX9_absent_280 (Nat.le_of_ble_eq_true rfl) rfl rfl (fun z21 ez21 => ?_)
      replace h := h z21 ez21
      refine g_iload (n := 284) C dX9_absent_282 1 rfl rfl ?_
      refine g_istore (n := 286) (i := 7) C dX9_absent_284 (Nat.le_of_ble_eq_true rfl) rfl rfl (fun z22 ez22 => ?_)
      replace h := h z22 ez22
      refine g_goto (tgt := 266) C dX9_absent_286 (by decide) ?_
      exact g_sub [3, 4, 5, 1, 0] rfl h
  have s103 : ∀ (M : Mem) (x103_4 : Int32) (x103_5 : Int32) (x103_6 : Int32) (x103_7 : Int32) (x103_8 : Int32), B_MD_absent_103 p1 p2 p3 post (fun (M : Mem) (x41_4 : Int32) (x41_5 : Int32) (x41_6 : Int32) => GS Z X 41 [(0, .ref (zb Z + 0)), (1, .int p1), (2, .int p2), (3, .int p3), (4, .int x41_4), (5, .int x41_5), (6, .int x41_6)] [] M) (fun (M : Mem) (x82_4 : Int32) (x82_5 : Int32) (x82_6 : Int32) => GS Z X 82 [(0, .ref (zb Z + 0)), (1, .int p1), (2, .int p2), (3, .int p3), (4, .int x82_4), (5, .int x82_5), (6, .int x82_6)] [] M) (fun (M : Mem) (x266_4 : Int32) (x266_5 : Int32) (x266_6 : Int32) (x266_7 : Int32) => GS Z X 266 [(3, .int p3), (4, .int x266_4), (5, .int x266_5), (6, .int x266_6), (7, .int x266_7)] [] M) (fun (M : Mem) (x103_4 : Int32) (x103_5 : Int32) (x103_6 : Int32) (x103_7 : Int32) (x103_8 : Int32) => GS Z X 103 [(0, .ref (zb Z + 0)), (1, .int p1), (2, .int p2), (3, .int p3), (4, .int x103_4), (5, .int x103_5), (6, .int x103_6), (7, .int x103_7), (8, .int x103_8)] [] M) (fun (M : Mem) (x209_4 : Int32) (x209_5 : Int32) (x209_6 : Int32) (x209_7 : Int32) (x209_8 : Int32) => GS Z X 209 [(0, .ref (zb Z + 0)), (1, .int p1), (2, .int p2), (3, .int p3), (4, .int x209_4), (5, .int x209_5), (6, .int x209_6), (7, .int x209_7), (8, .int x209_8)] [] M) (fun (M : Mem) (x144_4 : Int32) (x144_5 : Int32) (x144_6 : Int32) (x144_8 : Int32) (s144_0 : Int32) (s144_1 : Int32) => GS Z X 144 [(0, .ref (zb Z + 0)), (1, .int p1), (2, .int p2), (3, .int p3), (4, .int x144_4), (5, .int x144_5), (6, .int x144_6), (8, .int x144_8)] [.int s144_0, .int s144_1] M) M x103_4 x103_5 x103_6 x103_7 x103_8 → GS Z X 103 [(0, .ref (zb Z + 0)), (1, .int p1), (2, .int p2), (3, .int p3), (4, .int x103_4), (5, .int x103_5), (6, .int x103_6), (7, .int x103_7), (8, .int x103_8)] [] M := by
    intro M x103_4 x103_5 x103_6 x103_7 x103_8 h
    unfold B_MD_absent_103 at h
    refine g_iload (n := 105) C dX9_absent_103 8 rfl rfl ?_
    refine g_aload_n (n := 106) (i := 0) C dX9_absent_105 rfl 0 rfl rfl ?_
    refine gf_X9_69 (n := 109) C E (om_0 hZ) dX9_absent_106 rfl ?_
    refine g_icmp_ge (n := 112) (tgt := 201) C dX9_absent_109 (by decide) rfl (fun c => ?_) (fun c => ?_)
    · replace h := h.1 c
      refine g_iload (n := 203) C dX9_absent_201 7 rfl rfl ?_
      refine g_if_le (n := 206) (tgt := 252) C dX9_absent_203 (by decide) rfl (fun c => ?_) (fun c => ?_)
      · replace h := h.1 c
        refine g_iinc (n := 255) (v := (1 : Int32)) C dX9_absent_252 6 rfl (by decide) (Nat.le_of_ble_eq_true rfl) rfl rfl (fun z23 ez23 => ?_)
        replace h := h z23 ez23
        refine g_goto (tgt := 82) C dX9_absent_255 (by decide) ?_
        exact g_sub [1, 2, 3, 4, 5, 6, 0] rfl h
      · replace h := h.2 c
        refine g_iconst (n := 207) (0 : Int32) C dX9_absent_206 (by decide) rfl ?_
        refine g_istore (n := 209) (i := 8) C dX9_absent_207 (Nat.le_of_ble_eq_true rfl) rfl rfl (fun z24 ez24 => ?_)
        replace h := h z24 ez24
        exact g_sub [1, 2, 3, 4, 5, 6, 7, 8, 0] rfl h
    · replace h := h.2 c
      refine g_aload_n (n := 113) (i := 0) C dX9_absent_112 rfl 0 rfl rfl ?_
      refine gf_X9_7 (n := 116) 1 C E (om_0 hZ) rfl dX9_absent_113 rfl ?_
      refine g_iconst (n := 117) (2 : Int32) C dX9_absent_116 (by decide) rfl ?_
      refine g_iload (n := 119) C dX9_absent_117 8 rfl rfl ?_
      refine g_iadd (n := 120) C dX9_absent_119 rfl ?_
      refine g_iald (n := 121) C E (om_1 hZ) h.1 dX9_absent_120 rfl ?_
      replace h := h.2
      refine g_if_ne (n := 124) (tgt := 175) C dX9_absent_121 (by decide) rfl (fun c => ?_) (fun c => ?_)
      · replace h := h.1 c
        refine g_iload (n := 177) C dX9_absent_175 7 rfl rfl ?_
        refine g_iload (n := 179) C dX9_absent_177 6 rfl rfl ?_
        refine g_iload (n := 181) C dX9_absent_179 8 rfl rfl ?_
        refine g_callSi (n := 184) C E (c_MD_has hZ _ x103_6 x103_8 M _ h) ys_X9_has wd_1001 (by decide) (Nat.le_of_ble_eq_true rfl) dX9_absent_181 rfl rfl (fun r26 M25 h => ?_)
        refine g_if_eq (n := 187) (tgt := 191) C dX9_absent_184 (by decide) rfl (fun c => ?_) (fun c => ?_)
        · replace h := h.1 c
          refine g_iconst (n := 192) (1 : Int32) C dX9_absent_191 (by decide) rfl ?_
          refine g_imul (n := 193) C dX9_absent_192 rfl ?_
          refine g_istore (n := 195) (i := 7) C dX9_absent_193 (Nat.le_of_ble_eq_true rfl) rfl rfl (fun z27 ez27 => ?_)
          replace h := h z27 ez27
          refine g_iinc (n := 198) (v := (1 : Int32)) C dX9_absent_195 8 rfl (by decide) (Nat.le_of_ble_eq_true rfl) rfl rfl (fun z28 ez28 => ?_)
          replace h := h z28 ez28
          refine g_goto (tgt := 103) C dX9_absent_198 (by decide) ?_
          exact g_sub [2, 3, 4, 5, 6, 7, 8, 1, 0] rfl h
        · replace h := h.2 c
          refine g_iconst (n := 188) (0 : Int32) C dX9_absent_187 (by decide) rfl ?_
          refine g_goto (tgt := 192) C dX9_absent_188 (by decide) ?_
          refine g_imul (n := 193) C dX9_absent_192 rfl ?_
          refine g_istore (n := 195) (i := 7) C dX9_absent_193 (Nat.le_of_ble_eq_true rfl) rfl rfl (fun z29 ez29 => ?_)
          replace h := h z29 ez29
          refine g_iinc (n := 198) (v := (1 : Int32)) C dX9_absent_195 8 rfl (by decide) (Nat.le_of_ble_eq_true rfl) rfl rfl (fun z30 ez30 => ?_)
          replace h := h z30 ez30
          refine g_goto (tgt := 103) C dX9_absent_198 (by decide) ?_
          exact g_sub [2, 3, 4, 5, 6, 7, 8, 1, 0] rfl h
      · replace h := h.2 c
        refine g_iload (n := 126) C dX9_absent_124 7 rfl rfl ?_
        refine g_iload (n := 128) C dX9_absent_126 6 rfl rfl ?_
        refine g_iload (n := 130) C dX9_absent_128 8 rfl rfl ?_
        refine g_callSi (n := 133) C E (c_MD_has hZ _ x103_6 x103_8 M _ h) ys_X9_has wd_1001 (by decide) (Nat.le_of_ble_eq_true rfl) dX9_absent_130 rfl rfl (fun r32 M31 h => ?_)
        refine g_if_eq (n := 136) (tgt := 140) C dX9_absent_133 (by decide) rfl (fun c => ?_) (fun c => ?_)
        · replace h := h.1 c
          refine g_bipush (n := 142) (10 : Int32) C dX9_absent_140 (by decide) rfl ?_
          refine g_iload_n (n := 143) (i := 2) C dX9_absent_142 rfl 2 rfl rfl ?_
          refine g_isub (n := 144) C dX9_absent_143 rfl ?_
          exact g_sub [0, 1, 2, 3, 4, 5, 6, 8] rfl h
        · replace h := h.2 c
          refine g_iload_n (n := 137) (i := 2) C dX9_absent_136 rfl 2 rfl rfl ?_
          refine g_goto (tgt := 144) C dX9_absent_137 (by decide) ?_
          exact g_sub [0, 1, 2, 3, 4, 5, 6, 8] rfl h
  have s209 : ∀ (M : Mem) (x209_4 : Int32) (x209_5 : Int32) (x209_6 : Int32) (x209_7 : Int32) (x209_8 : Int32), B_MD_absent_209 p1 p2 p3 post (fun (M : Mem) (x41_4 : Int32) (x41_5 : Int32) (x41_6 : Int32) => GS Z X 41 [(0, .ref (zb Z + 0)), (1, .int p1), (2, .int p2), (3, .int p3), (4, .int x41_4), (5, .int x41_5), (6, .int x41_6)] [] M) (fun (M : Mem) (x82_4 : Int32) (x82_5 : Int32) (x82_6 : Int32) => GS Z X 82 [(0, .ref (zb Z + 0)), (1, .int p1), (2, .int p2), (3, .int p3), (4, .int x82_4), (5, .int x82_5), (6, .int x82_6)] [] M) (fun (M : Mem) (x266_4 : Int32) (x266_5 : Int32) (x266_6 : Int32) (x266_7 : Int32) => GS Z X 266 [(3, .int p3), (4, .int x266_4), (5, .int x266_5), (6, .int x266_6), (7, .int x266_7)] [] M) (fun (M : Mem) (x103_4 : Int32) (x103_5 : Int32) (x103_6 : Int32) (x103_7 : Int32) (x103_8 : Int32) => GS Z X 103 [(0, .ref (zb Z + 0)), (1, .int p1), (2, .int p2), (3, .int p3), (4, .int x103_4), (5, .int x103_5), (6, .int x103_6), (7, .int x103_7), (8, .int x103_8)] [] M) (fun (M : Mem) (x209_4 : Int32) (x209_5 : Int32) (x209_6 : Int32) (x209_7 : Int32) (x209_8 : Int32) => GS Z X 209 [(0, .ref (zb Z + 0)), (1, .int p1), (2, .int p2), (3, .int p3), (4, .int x209_4), (5, .int x209_5), (6, .int x209_6), (7, .int x209_7), (8, .int x209_8)] [] M) (fun (M : Mem) (x144_4 : Int32) (x144_5 : Int32) (x144_6 : Int32) (x144_8 : Int32) (s144_0 : Int32) (s144_1 : Int32) => GS Z X 144 [(0, .ref (zb Z + 0)), (1, .int p1), (2, .int p2), (3, .int p3), (4, .int x144_4), (5, .int x144_5), (6, .int x144_6), (8, .int x144_8)] [.int s144_0, .int s144_1] M) M x209_4 x209_5 x209_6 x209_7 x209_8 → GS Z X 209 [(0, .ref (zb Z + 0)), (1, .int p1), (2, .int p2), (3, .int p3), (4, .int x209_4), (5, .int x209_5), (6, .int x209_6), (7, .int x209_7), (8, .int x209_8)] [] M := by
    intro M x209_4 x209_5 x209_6 x209_7 x209_8 h
    unfold B_MD_absent_209 at h
    refine g_iload (n := 211) C dX9_absent_209 8 rfl rfl ?_
    refine g_bipush (n := 213) (99 : Int32) C dX9_absent_211 (by decide) rfl ?_
    refine g_icmp_ge (n := 216) (tgt := 228) C dX9_absent_213 (by decide) rfl (fun c => ?_) (fun c => ?_)
    · replace h := h.1 c
      refine g_iload (n := 230) C dX9_absent_228 4 rfl rfl ?_
      refine g_aload_n (n := 231) (i := 0) C dX9_absent_230 rfl 0 rfl rfl ?_
      refine gf_X9_7 (n := 234) 1 C E (om_0 hZ) rfl dX9_absent_231 rfl ?_
      refine g_bipush (n := 236) (53 : Int32) C dX9_absent_234 (by decide) rfl ?_
      refine g_iload_n (n := 237) (i := 1) C dX9_absent_236 rfl 1 rfl rfl ?_
      refine g_iadd (n := 238) C dX9_absent_237 rfl ?_
      refine g_iald (n := 239) C E (om_1 hZ) h.1 dX9_absent_238 rfl ?_
      replace h := h.2
      refine g_iconst (n := 240) (2 : Int32) C dX9_absent_239 (by decide) rfl ?_
      refine g_icmp_ne (n := 243) (tgt := 248) C dX9_absent_240 (by decide) rfl (fun c => ?_) (fun c => ?_)
      · replace h := h.1 c
        refine g_iconst (n := 249) (0 : Int32) C dX9_absent_248 (by decide) rfl ?_
        refine g_iadd (n := 250) C dX9_absent_249 rfl ?_
        refine g_istore (n := 252) (i := 4) C dX9_absent_250 (Nat.le_of_ble_eq_true rfl) rfl rfl (fun z33 ez33 => ?_)
        replace h := h z33 ez33
        refine g_iinc (n := 255) (v := (1 : Int32)) C dX9_absent_252 6 rfl (by decide) (Nat.le_of_ble_eq_true rfl) rfl rfl (fun z34 ez34 => ?_)
        replace h := h z34 ez34
        refine g_goto (tgt := 82) C dX9_absent_255 (by decide) ?_
        exact g_sub [2, 3, 4, 5, 1, 6, 0] rfl h
      · replace h := h.2 c
        refine g_iload (n := 245) C dX9_absent_243 7 rfl rfl ?_
        refine g_goto (tgt := 249) C dX9_absent_245 (by decide) ?_
        refine g_iadd (n := 250) C dX9_absent_249 rfl ?_
        refine g_istore (n := 252) (i := 4) C dX9_absent_250 (Nat.le_of_ble_eq_true rfl) rfl rfl (fun z35 ez35 => ?_)
        replace h := h z35 ez35
        refine g_iinc (n := 255) (v := (1 : Int32)) C dX9_absent_252 6 rfl (by decide) (Nat.le_of_ble_eq_true rfl) rfl rfl (fun z36 ez36 => ?_)
        replace h := h z36 ez36
        refine g_goto (tgt := 82) C dX9_absent_255 (by decide) ?_
        exact g_sub [2, 3, 4, 5, 1, 6, 0] rfl h
    · replace h := h.2 c
      refine g_aload_n (n := 217) (i := 0) C dX9_absent_216 rfl 0 rfl rfl ?_
      refine g_bipush (n := 219) (51 : Int32) C dX9_absent_217 (by decide) rfl ?_
      refine g_callVv (n := 222) (kd := 9) C E (c_MD_passes hZ _ (51 : Int32) M _ h) yi_X9_passes wd_981 rfl (om_0 hZ) (by decide) (Nat.le_of_ble_eq_true rfl) dX9_absent_219 rfl rfl (fun M37 h => ?_)
      refine g_iinc (n := 225) (v := (1 : Int32)) C dX9_absent_222 8 rfl (by decide) (Nat.le_of_ble_eq_true rfl) rfl rfl (fun z38 ez38 => ?_)
      replace h := h z38 ez38
      refine g_goto (tgt := 209) C dX9_absent_225 (by decide) ?_
      exact g_sub [1, 2, 3, 4, 5, 6, 7, 8, 0] rfl h
  have s144 : ∀ (M : Mem) (x144_4 : Int32) (x144_5 : Int32) (x144_6 : Int32) (x144_8 : Int32) (s144_0 : Int32) (s144_1 : Int32), B_MD_absent_144 p1 p2 p3 post (fun (M : Mem) (x41_4 : Int32) (x41_5 : Int32) (x41_6 : Int32) => GS Z X 41 [(0, .ref (zb Z + 0)), (1, .int p1), (2, .int p2), (3, .int p3), (4, .int x41_4), (5, .int x41_5), (6, .int x41_6)] [] M) (fun (M : Mem) (x82_4 : Int32) (x82_5 : Int32) (x82_6 : Int32) => GS Z X 82 [(0, .ref (zb Z + 0)), (1, .int p1), (2, .int p2), (3, .int p3), (4, .int x82_4), (5, .int x82_5), (6, .int x82_6)] [] M) (fun (M : Mem) (x266_4 : Int32) (x266_5 : Int32) (x266_6 : Int32) (x266_7 : Int32) => GS Z X 266 [(3, .int p3), (4, .int x266_4), (5, .int x266_5), (6, .int x266_6), (7, .int x266_7)] [] M) (fun (M : Mem) (x103_4 : Int32) (x103_5 : Int32) (x103_6 : Int32) (x103_7 : Int32) (x103_8 : Int32) => GS Z X 103 [(0, .ref (zb Z + 0)), (1, .int p1), (2, .int p2), (3, .int p3), (4, .int x103_4), (5, .int x103_5), (6, .int x103_6), (7, .int x103_7), (8, .int x103_8)] [] M) (fun (M : Mem) (x209_4 : Int32) (x209_5 : Int32) (x209_6 : Int32) (x209_7 : Int32) (x209_8 : Int32) => GS Z X 209 [(0, .ref (zb Z + 0)), (1, .int p1), (2, .int p2), (3, .int p3), (4, .int x209_4), (5, .int x209_5), (6, .int x209_6), (7, .int x209_7), (8, .int x209_8)] [] M) (fun (M : Mem) (x144_4 : Int32) (x144_5 : Int32) (x144_6 : Int32) (x144_8 : Int32) (s144_0 : Int32) (s144_1 : Int32) => GS Z X 144 [(0, .ref (zb Z + 0)), (1, .int p1), (2, .int p2), (3, .int p3), (4, .int x144_4), (5, .int x144_5), (6, .int x144_6), (8, .int x144_8)] [.int s144_0, .int s144_1] M) M x144_4 x144_5 x144_6 x144_8 s144_0 s144_1 → GS Z X 144 [(0, .ref (zb Z + 0)), (1, .int p1), (2, .int p2), (3, .int p3), (4, .int x144_4), (5, .int x144_5), (6, .int x144_6), (8, .int x144_8)] [.int s144_0, .int s144_1] M := by
    intro M x144_4 x144_5 x144_6 x144_8 s144_0 s144_1 h
    unfold B_MD_absent_144 at h
    refine g_imul (n := 145) C dX9_absent_144 rfl ?_
    refine g_istore (n := 147) (i := 7) C dX9_absent_145 (Nat.le_of_ble_eq_true rfl) rfl rfl (fun z39 ez39 => ?_)
    replace h := h z39 ez39
    refine g_aload_n (n := 148) (i := 0) C dX9_absent_147 rfl 1 rfl rfl ?_
    refine gf_X9_7 (n := 151) 1 C E (om_0 hZ) rfl dX9_absent_148 rfl ?_
    refine g_bipush (n := 153) (53 : Int32) C dX9_absent_151 (by decide) rfl ?_
    refine g_iload (n := 155) C dX9_absent_153 8 rfl rfl ?_
    refine g_iadd (n := 156) C dX9_absent_155 rfl ?_
    refine g_iload (n := 158) C dX9_absent_156 7 rfl rfl ?_
    refine g_iload (n := 160) C dX9_absent_158 8 rfl rfl ?_
    refine g_callSi (n := 163) C E (c_MD_has hZ _ x144_6 x144_8 M _ h) ys_X9_has wd_1001 (by decide) (Nat.le_of_ble_eq_true rfl) dX9_absent_160 rfl rfl (fun r41 M40 h => ?_)
    refine g_if_eq (n := 166) (tgt := 170) C dX9_absent_163 (by decide) rfl (fun c => ?_) (fun c => ?_)
    · replace h := h.1 c
      refine g_iconst (n := 171) (0 : Int32) C dX9_absent_170 (by decide) rfl ?_
      refine g_iast (n := 172) C E (om_1 hZ) h.1 dX9_absent_171 rfl (fun M42 eM42 => ?_)
      replace h := h.2 M42 eM42
      refine g_goto (tgt := 195) C dX9_absent_172 (by decide) ?_
      refine g_iinc (n := 198) (v := (1 : Int32)) C dX9_absent_195 8 rfl (by decide) (Nat.le_of_ble_eq_true rfl) rfl rfl (fun z43 ez43 => ?_)
      replace h := h z43 ez43
      refine g_goto (tgt := 103) C dX9_absent_198 (by decide) ?_
      exact g_sub [2, 3, 4, 5, 6, 7, 8, 1, 0] rfl h
    · replace h := h.2 c
      refine g_iconst (n := 167) (3 : Int32) C dX9_absent_166 (by decide) rfl ?_
      refine g_goto (tgt := 171) C dX9_absent_167 (by decide) ?_
      refine g_iast (n := 172) C E (om_1 hZ) h.1 dX9_absent_171 rfl (fun M44 eM44 => ?_)
      replace h := h.2 M44 eM44
      refine g_goto (tgt := 195) C dX9_absent_172 (by decide) ?_
      refine g_iinc (n := 198) (v := (1 : Int32)) C dX9_absent_195 8 rfl (by decide) (Nat.le_of_ble_eq_true rfl) rfl rfl (fun z45 ez45 => ?_)
      replace h := h z45 ez45
      refine g_goto (tgt := 103) C dX9_absent_198 (by decide) ?_
      exact g_sub [2, 3, 4, 5, 6, 7, 8, 1, 0] rfl h
  replace h := h (fun (M : Mem) (x41_4 : Int32) (x41_5 : Int32) (x41_6 : Int32) => GS Z X 41 [(0, .ref (zb Z + 0)), (1, .int p1), (2, .int p2), (3, .int p3), (4, .int x41_4), (5, .int x41_5), (6, .int x41_6)] [] M) (fun (M : Mem) (x82_4 : Int32) (x82_5 : Int32) (x82_6 : Int32) => GS Z X 82 [(0, .ref (zb Z + 0)), (1, .int p1), (2, .int p2), (3, .int p3), (4, .int x82_4), (5, .int x82_5), (6, .int x82_6)] [] M) (fun (M : Mem) (x266_4 : Int32) (x266_5 : Int32) (x266_6 : Int32) (x266_7 : Int32) => GS Z X 266 [(3, .int p3), (4, .int x266_4), (5, .int x266_5), (6, .int x266_6), (7, .int x266_7)] [] M) (fun (M : Mem) (x103_4 : Int32) (x103_5 : Int32) (x103_6 : Int32) (x103_7 : Int32) (x103_8 : Int32) => GS Z X 103 [(0, .ref (zb Z + 0)), (1, .int p1), (2, .int p2), (3, .int p3), (4, .int x103_4), (5, .int x103_5), (6, .int x103_6), (7, .int x103_7), (8, .int x103_8)] [] M) (fun (M : Mem) (x209_4 : Int32) (x209_5 : Int32) (x209_6 : Int32) (x209_7 : Int32) (x209_8 : Int32) => GS Z X 209 [(0, .ref (zb Z + 0)), (1, .int p1), (2, .int p2), (3, .int p3), (4, .int x209_4), (5, .int x209_5), (6, .int x209_6), (7, .int x209_7), (8, .int x209_8)] [] M) (fun (M : Mem) (x144_4 : Int32) (x144_5 : Int32) (x144_6 : Int32) (x144_8 : Int32) (s144_0 : Int32) (s144_1 : Int32) => GS Z X 144 [(0, .ref (zb Z + 0)), (1, .int p1), (2, .int p2), (3, .int p3), (4, .int x144_4), (5, .int x144_5), (6, .int x144_6), (8, .int x144_8)] [.int s144_0, .int s144_1] M) s41 s82 s266 s103 s209 s144
  unfold B_MD_absent_i at h
  show GS Z X 0 [(0, .ref (zb Z + 0)), (1, .int p1), (2, .int p2), (3, .int p3)] [] M
  refine g_aload_n (n := 1) (i := 0) C dX9_absent_0 rfl 0 rfl rfl ?_
  refine g_iload_n (n := 2) (i := 1) C dX9_absent_1 rfl 1 rfl rfl ?_
  refine g_callVi (n := 5) (kd := 9) C E (c_MD_isGuest hZ _ p1 M _ h) yi_X9_isGuest wd_959 rfl (om_0 hZ) (by decide) (Nat.le_of_ble_eq_true rfl) dX9_absent_2 rfl rfl (fun r2 M1 h => ?_)
  refine g_if_eq (n := 8) (tgt := 30) C dX9_absent_5 (by decide) rfl (fun c => ?_) (fun c => ?_)
  · replace h := h.1 c
    refine g_iconst (n := 31) (-1 : Int32) C dX9_absent_30 (by decide) rfl ?_
    exact g_iret C hr hQ dX9_absent_31 h
  · replace h := h.2 c
    refine g_iload_n (n := 9) (i := 2) C dX9_absent_8 rfl 2 rfl rfl ?_
    refine g_i2l (n := 10) C dX9_absent_9 rfl ?_
    refine g_lconst (n := 11) (0 : Int64) C dX9_absent_10 (by decide) rfl ?_
    refine g_ldc2 (n := 14) (10 : Int64) C wd_1108 dX9_absent_11 rfl ?_
    refine g_callSi (n := 17) C E (c_MD_in hZ _ p2.toInt64 (0 : Int64) (10 : Int64) M1 _ h) ys_X9_in wd_914 (by decide) (Nat.le_of_ble_eq_true rfl) dX9_absent_14 rfl rfl (fun r4 M3 h => ?_)
    refine g_if_eq (n := 20) (tgt := 30) C dX9_absent_17 (by decide) rfl (fun c => ?_) (fun c => ?_)
    · replace h := h.1 c
      refine g_iconst (n := 31) (-1 : Int32) C dX9_absent_30 (by decide) rfl ?_
      exact g_iret C hr hQ dX9_absent_31 h
    · replace h := h.2 c
      refine g_iload_n (n := 21) (i := 3) C dX9_absent_20 rfl 3 rfl rfl ?_
      refine g_i2l (n := 22) C dX9_absent_21 rfl ?_
      refine g_lconst (n := 23) (0 : Int64) C dX9_absent_22 (by decide) rfl ?_
      refine g_lconst (n := 24) (1 : Int64) C dX9_absent_23 (by decide) rfl ?_
      refine g_callSi (n := 27) C E (c_MD_in hZ _ p3.toInt64 (0 : Int64) (1 : Int64) M3 _ h) ys_X9_in wd_914 (by decide) (Nat.le_of_ble_eq_true rfl) dX9_absent_24 rfl rfl (fun r6 M5 h => ?_)
      refine g_if_ne (n := 30) (tgt := 32) C dX9_absent_27 (by decide) rfl (fun c => ?_) (fun c => ?_)
      · replace h := h.1 c
        refine g_iconst (n := 33) (0 : Int32) C dX9_absent_32 (by decide) rfl ?_
        refine g_istore (n := 35) (i := 4) C dX9_absent_33 (Nat.le_of_ble_eq_true rfl) rfl rfl (fun z7 ez7 => ?_)
        replace h := h z7 ez7
        refine g_iconst (n := 36) (1 : Int32) C dX9_absent_35 (by decide) rfl ?_
        refine g_istore (n := 38) (i := 5) C dX9_absent_36 (Nat.le_of_ble_eq_true rfl) rfl rfl (fun z8 ez8 => ?_)
        replace h := h z8 ez8
        refine g_iconst (n := 39) (0 : Int32) C dX9_absent_38 (by decide) rfl ?_
        refine g_istore (n := 41) (i := 6) C dX9_absent_39 (Nat.le_of_ble_eq_true rfl) rfl rfl (fun z9 ez9 => ?_)
        replace h := h z9 ez9
        exact g_sub [3, 4, 5, 6, 2, 1, 0] rfl h
      · replace h := h.2 c
        refine g_iconst (n := 31) (-1 : Int32) C dX9_absent_30 (by decide) rfl ?_
        exact g_iret C hr hQ dX9_absent_31 h
def B_MD_doesBy_i (p1 : Int32) (post : Mem → Prop) (R50 : Mem → Int32 → Int32 → Prop) (M : Mem)  : Prop :=
  (¬ (M 0 3) = 0) ∧ (∀ z1 : Int32, z1 = ((p1 / (8 : Int32)) - (p1 / (8 : Int32)) / (M 0 3) * (M 0 3)) → ∀ z2 : Int32, z2 = (p1 - p1 / (8 : Int32) * (8 : Int32)) → (((¬ z2 = 0) → (((¬ z2 = (1 : Int32)) → (((¬ z2 = (2 : Int32)) → post M) ∧ ((z2 = (2 : Int32)) → (¬ (M 0 3) = 0) ∧ (∀ z3 : Int32, z3 = ((p1 / (64 : Int32)) - (p1 / (64 : Int32)) / (M 0 3) * (M 0 3)) → P_MD_canChange M (51 : Int32) z1 z3 (fun (r5 : Int32) (M4 : Mem) => (((r5 = 0) → post M4) ∧ ((¬ r5 = 0) → P_MD_changes M4 (51 : Int32) z1 z3 (fun (M6 : Mem) => post M6)))))))) ∧ ((z2 = (1 : Int32)) → vp_in ((53 : Int32) + z1) 612 ∧ ((((¬ (M 1 (((53 : Int32) + z1)).toNatClampNeg) = 0) → post M) ∧ (((M 1 (((53 : Int32) + z1)).toNatClampNeg) = 0) → vp_in ((53 : Int32) + z1) 612 ∧ (∀ M7 : Mem, M7 = mset M 1 (((53 : Int32) + z1)).toNatClampNeg (3 : Int32) → post M7))))))) ∧ ((z2 = 0) → vp_in (51 : Int32) 612 ∧ (∀ z8 : Int32, z8 = ((M 1 ((51 : Int32)).toNatClampNeg) + ((p1 / (64 : Int32)) - (p1 / (64 : Int32)) / (8 : Int32) * (8 : Int32))) → (((z8 ≤ (40 : Int32)) → (R50 M z1 z8)) ∧ ((¬ z8 ≤ (40 : Int32)) → (R50 M z1 (40 : Int32))))))))
def B_MD_doesBy_50 (p1 : Int32) (post : Mem → Prop) (R50 : Mem → Int32 → Int32 → Prop) (M : Mem) (x50_2 : Int32) (s50_0 : Int32) : Prop :=
  ∀ z9 : Int32, z9 = s50_0 → P_MD_canBook M (51 : Int32) x50_2 z9 (fun (r11 : Int32) (M10 : Mem) => (((r11 = 0) → post M10) ∧ ((¬ r11 = 0) → vp_in ((60 : Int32) + x50_2) 612 ∧ (∀ M12 : Mem, M12 = mset M10 1 (((60 : Int32) + x50_2)).toNatClampNeg z9 → post M12))))
def P_MD_doesBy (M : Mem) (p1 : Int32) (post : Mem → Prop) : Prop :=
  ∀ (R50 : Mem → Int32 → Int32 → Prop), (∀ (M : Mem) (x50_2 : Int32) (s50_0 : Int32), B_MD_doesBy_50 p1 post R50 M x50_2 s50_0 → R50 M x50_2 s50_0) → B_MD_doesBy_i p1 post R50 M
set_option maxHeartbeats 4000000 in
set_option maxRecDepth 100000 in
theorem c_MD_doesBy {Z : ZT} (hZ : IsM Z) (l : Launch) (p1 : Int32) (M : Mem) (post : Mem → Prop) (h : P_MD_doesBy M p1 post) : CtV Z l yX9_doesBy cX9_doesBy 5 none 1 24 [.ref (zb Z + 0), .int p1] M post := by
  refine ctV (own := RX9) rfl (by decide) (Nat.le_of_ble_eq_true rfl) (fun X C E hr hQ => ?_)
  have s50 : ∀ (M : Mem) (x50_2 : Int32) (s50_0 : Int32), B_MD_doesBy_50 p1 post (fun (M : Mem) (x50_2 : Int32) (s50_0 : Int32) => GS Z X 50 [(0, .ref (zb Z + 0)), (2, .int x50_2)] [.int s50_0] M) M x50_2 s50_0 → GS Z X 50 [(0, .ref (zb Z + 0)), (2, .int x50_2)] [.int s50_0] M := by
    intro M x50_2 s50_0 h
    unfold B_MD_doesBy_50 at h
    refine g_istore (n := 52) (i := 4) C dX9_doesBy_50 (Nat.le_of_ble_eq_true rfl) rfl rfl (fun z9 ez9 => ?_)
    replace h := h z9 ez9
    refine g_aload_n (n := 53) (i := 0) C dX9_doesBy_52 rfl 1 rfl rfl ?_
    refine g_bipush (n := 55) (51 : Int32) C dX9_doesBy_53 (by decide) rfl ?_
    refine g_iload_n (n := 56) (i := 2) C dX9_doesBy_55 rfl 2 rfl rfl ?_
    refine g_iload (n := 58) C dX9_doesBy_56 0 rfl rfl ?_
    refine g_callVi (n := 61) (kd := 9) C E (c_MD_canBook hZ _ (51 : Int32) x50_2 z9 M _ h) yi_X9_canBook wd_1009 rfl (om_0 hZ) (by decide) (Nat.le_of_ble_eq_true rfl) dX9_doesBy_58 rfl rfl (fun r11 M10 h => ?_)
    refine g_if_eq (n := 64) (tgt := 75) C dX9_doesBy_61 (by decide) rfl (fun c => ?_) (fun c => ?_)
    · replace h := h.1 c
      refine g_goto (tgt := 145) C dX9_doesBy_75 (by decide) ?_
      exact g_vret C hr hQ dX9_doesBy_145 h
    · replace h := h.2 c
      refine g_aload_n (n := 65) (i := 0) C dX9_doesBy_64 rfl 1 rfl rfl ?_
      refine gf_X9_7 (n := 68) 1 C E (om_0 hZ) rfl dX9_doesBy_65 rfl ?_
      refine g_bipush (n := 70) (60 : Int32) C dX9_doesBy_68 (by decide) rfl ?_
      refine g_iload_n (n := 71) (i := 2) C dX9_doesBy_70 rfl 2 rfl rfl ?_
      refine g_iadd (n := 72) C dX9_doesBy_71 rfl ?_
      refine g_iload (n := 74) C dX9_doesBy_72 0 rfl rfl ?_
      refine g_iast (n := 75) C E (om_1 hZ) h.1 dX9_doesBy_74 rfl (fun M12 eM12 => ?_)
      replace h := h.2 M12 eM12
      refine g_goto (tgt := 145) C dX9_doesBy_75 (by decide) ?_
      exact g_vret C hr hQ dX9_doesBy_145 h
  replace h := h (fun (M : Mem) (x50_2 : Int32) (s50_0 : Int32) => GS Z X 50 [(0, .ref (zb Z + 0)), (2, .int x50_2)] [.int s50_0] M) s50
  unfold B_MD_doesBy_i at h
  show GS Z X 0 [(0, .ref (zb Z + 0)), (1, .int p1)] [] M
  refine g_iload_n (n := 1) (i := 1) C dX9_doesBy_0 rfl 1 rfl rfl ?_
  refine g_bipush (n := 3) (8 : Int32) C dX9_doesBy_1 (by decide) rfl ?_
  refine g_idiv (n := 4) C dX9_doesBy_3 (by decide) rfl ?_
  refine g_aload_n (n := 5) (i := 0) C dX9_doesBy_4 rfl 0 rfl rfl ?_
  refine gf_X9_69 (n := 8) C E (om_0 hZ) dX9_doesBy_5 rfl ?_
  refine g_irem (n := 9) C dX9_doesBy_8 h.1 rfl ?_
  replace h := h.2
  refine g_istore_n (n := 10) (i := 2) C dX9_doesBy_9 rfl (Nat.le_of_ble_eq_true rfl) rfl rfl (fun z1 ez1 => ?_)
  replace h := h z1 ez1
  refine g_iload_n (n := 11) (i := 1) C dX9_doesBy_10 rfl 2 rfl rfl ?_
  refine g_bipush (n := 13) (8 : Int32) C dX9_doesBy_11 (by decide) rfl ?_
  refine g_irem (n := 14) C dX9_doesBy_13 (by decide) rfl ?_
  refine g_istore_n (n := 15) (i := 3) C dX9_doesBy_14 rfl (Nat.le_of_ble_eq_true rfl) rfl rfl (fun z2 ez2 => ?_)
  replace h := h z2 ez2
  refine g_iload_n (n := 16) (i := 3) C dX9_doesBy_15 rfl 0 rfl rfl ?_
  refine g_if_ne (n := 19) (tgt := 78) C dX9_doesBy_16 (by decide) rfl (fun c => ?_) (fun c => ?_)
  · replace h := h.1 c
    refine g_iload_n (n := 79) (i := 3) C dX9_doesBy_78 rfl 0 rfl rfl ?_
    refine g_iconst (n := 80) (1 : Int32) C dX9_doesBy_79 (by decide) rfl ?_
    refine g_icmp_ne (n := 83) (tgt := 108) C dX9_doesBy_80 (by decide) rfl (fun c => ?_) (fun c => ?_)
    · replace h := h.1 c
      refine g_iload_n (n := 109) (i := 3) C dX9_doesBy_108 rfl 0 rfl rfl ?_
      refine g_iconst (n := 110) (2 : Int32) C dX9_doesBy_109 (by decide) rfl ?_
      refine g_icmp_ne (n := 113) (tgt := 145) C dX9_doesBy_110 (by decide) rfl (fun c => ?_) (fun c => ?_)
      · replace h := h.1 c
        exact g_vret C hr hQ dX9_doesBy_145 h
      · replace h := h.2 c
        refine g_iload_n (n := 114) (i := 1) C dX9_doesBy_113 rfl 3 rfl rfl ?_
        refine g_bipush (n := 116) (64 : Int32) C dX9_doesBy_114 (by decide) rfl ?_
        refine g_idiv (n := 117) C dX9_doesBy_116 (by decide) rfl ?_
        refine g_aload_n (n := 118) (i := 0) C dX9_doesBy_117 rfl 2 rfl rfl ?_
        refine gf_X9_69 (n := 121) C E (om_0 hZ) dX9_doesBy_118 rfl ?_
        refine g_irem (n := 122) C dX9_doesBy_121 h.1 rfl ?_
        replace h := h.2
        refine g_istore (n := 124) (i := 4) C dX9_doesBy_122 (Nat.le_of_ble_eq_true rfl) rfl rfl (fun z3 ez3 => ?_)
        replace h := h z3 ez3
        refine g_aload_n (n := 125) (i := 0) C dX9_doesBy_124 rfl 3 rfl rfl ?_
        refine g_bipush (n := 127) (51 : Int32) C dX9_doesBy_125 (by decide) rfl ?_
        refine g_iload_n (n := 128) (i := 2) C dX9_doesBy_127 rfl 2 rfl rfl ?_
        refine g_iload (n := 130) C dX9_doesBy_128 0 rfl rfl ?_
        refine g_callVi (n := 133) (kd := 9) C E (c_MD_canChange hZ _ (51 : Int32) z1 z3 M _ h) yi_X9_canChange wd_1025 rfl (om_0 hZ) (by decide) (Nat.le_of_ble_eq_true rfl) dX9_doesBy_130 rfl rfl (fun r5 M4 h => ?_)
        refine g_if_eq (n := 136) (tgt := 145) C dX9_doesBy_133 (by decide) rfl (fun c => ?_) (fun c => ?_)
        · replace h := h.1 c
          exact g_vret C hr hQ dX9_doesBy_145 h
        · replace h := h.2 c
          refine g_aload_n (n := 137) (i := 0) C dX9_doesBy_136 rfl 3 rfl rfl ?_
          refine g_bipush (n := 139) (51 : Int32) C dX9_doesBy_137 (by decide) rfl ?_
          refine g_iload_n (n := 140) (i := 2) C dX9_doesBy_139 rfl 2 rfl rfl ?_
          refine g_iload (n := 142) C dX9_doesBy_140 0 rfl rfl ?_
          refine g_callVv (n := 145) (kd := 9) C E (c_MD_changes hZ _ (51 : Int32) z1 z3 M4 _ h) yi_X9_changes wd_1029 rfl (om_0 hZ) (by decide) (Nat.le_of_ble_eq_true rfl) dX9_doesBy_142 rfl rfl (fun M6 h => ?_)
          exact g_vret C hr hQ dX9_doesBy_145 h
    · replace h := h.2 c
      refine g_aload_n (n := 84) (i := 0) C dX9_doesBy_83 rfl 2 rfl rfl ?_
      refine gf_X9_7 (n := 87) 1 C E (om_0 hZ) rfl dX9_doesBy_84 rfl ?_
      refine g_bipush (n := 89) (53 : Int32) C dX9_doesBy_87 (by decide) rfl ?_
      refine g_iload_n (n := 90) (i := 2) C dX9_doesBy_89 rfl 1 rfl rfl ?_
      refine g_iadd (n := 91) C dX9_doesBy_90 rfl ?_
      refine g_iald (n := 92) C E (om_1 hZ) h.1 dX9_doesBy_91 rfl ?_
      replace h := h.2
      refine g_if_ne (n := 95) (tgt := 145) C dX9_doesBy_92 (by decide) rfl (fun c => ?_) (fun c => ?_)
      · replace h := h.1 c
        exact g_vret C hr hQ dX9_doesBy_145 h
      · replace h := h.2 c
        refine g_aload_n (n := 96) (i := 0) C dX9_doesBy_95 rfl 2 rfl rfl ?_
        refine gf_X9_7 (n := 99) 1 C E (om_0 hZ) rfl dX9_doesBy_96 rfl ?_
        refine g_bipush (n := 101) (53 : Int32) C dX9_doesBy_99 (by decide) rfl ?_
        refine g_iload_n (n := 102) (i := 2) C dX9_doesBy_101 rfl 1 rfl rfl ?_
        refine g_iadd (n := 103) C dX9_doesBy_102 rfl ?_
        refine g_iconst (n := 104) (3 : Int32) C dX9_doesBy_103 (by decide) rfl ?_
        refine g_iast (n := 105) C E (om_1 hZ) h.1 dX9_doesBy_104 rfl (fun M7 eM7 => ?_)
        replace h := h.2 M7 eM7
        refine g_goto (tgt := 145) C dX9_doesBy_105 (by decide) ?_
        exact g_vret C hr hQ dX9_doesBy_145 h
  · replace h := h.2 c
    refine g_aload_n (n := 20) (i := 0) C dX9_doesBy_19 rfl 2 rfl rfl ?_
    refine gf_X9_7 (n := 23) 1 C E (om_0 hZ) rfl dX9_doesBy_20 rfl ?_
    refine g_bipush (n := 25) (51 : Int32) C dX9_doesBy_23 (by decide) rfl ?_
    refine g_iald (n := 26) C E (om_1 hZ) h.1 dX9_doesBy_25 rfl ?_
    replace h := h.2
    refine g_iload_n (n := 27) (i := 1) C dX9_doesBy_26 rfl 3 rfl rfl ?_
    refine g_bipush (n := 29) (64 : Int32) C dX9_doesBy_27 (by decide) rfl ?_
    refine g_idiv (n := 30) C dX9_doesBy_29 (by decide) rfl ?_
    refine g_bipush (n := 32) (8 : Int32) C dX9_doesBy_30 (by decide) rfl ?_
    refine g_irem (n := 33) C dX9_doesBy_32 (by decide) rfl ?_
    refine g_iadd (n := 34) C dX9_doesBy_33 rfl ?_
    refine g_istore (n := 36) (i := 4) C dX9_doesBy_34 (Nat.le_of_ble_eq_true rfl) rfl rfl (fun z8 ez8 => ?_)
    replace h := h z8 ez8
    refine g_iload (n := 38) C dX9_doesBy_36 0 rfl rfl ?_
    refine g_bipush (n := 40) (40 : Int32) C dX9_doesBy_38 (by decide) rfl ?_
    refine g_icmp_le (n := 43) (tgt := 48) C dX9_doesBy_40 (by decide) rfl (fun c => ?_) (fun c => ?_)
    · replace h := h.1 c
      refine g_iload (n := 50) C dX9_doesBy_48 0 rfl rfl ?_
      exact g_sub [3, 2] rfl h
    · replace h := h.2 c
      refine g_bipush (n := 45) (40 : Int32) C dX9_doesBy_43 (by decide) rfl ?_
      refine g_goto (tgt := 50) C dX9_doesBy_45 (by decide) ?_
      exact g_sub [3, 2] rfl h
def B_MD_coinsOf_i (p1 : Int32) (post : Int32 → Mem → Prop) (R4 : Mem → Int32 → Int32 → Prop) (M : Mem)  : Prop :=
  ∀ z1 : Int32, z1 = (0 : Int32) → ∀ z2 : Int32, z2 = (0 : Int32) → (R4 M z1 z2)
def B_MD_coinsOf_4 (p1 : Int32) (post : Int32 → Mem → Prop) (R4 : Mem → Int32 → Int32 → Prop) (M : Mem) (x4_2 : Int32) (x4_3 : Int32) : Prop :=
  ((((M 0 3) ≤ x4_3) → post x4_2 M) ∧ ((¬ (M 0 3) ≤ x4_3) → vp_in ((p1 + (44 : Int32)) + x4_3) 612 ∧ (∀ z3 : Int32, z3 = (x4_2 + (M 1 (((p1 + (44 : Int32)) + x4_3)).toNatClampNeg)) → ∀ z4 : Int32, z4 = x4_3 + (1 : Int32) → (R4 M z3 z4))))
def P_MD_coinsOf (M : Mem) (p1 : Int32) (post : Int32 → Mem → Prop) : Prop :=
  ∀ (R4 : Mem → Int32 → Int32 → Prop), (∀ (M : Mem) (x4_2 : Int32) (x4_3 : Int32), B_MD_coinsOf_4 p1 post R4 M x4_2 x4_3 → R4 M x4_2 x4_3) → B_MD_coinsOf_i p1 post R4 M
set_option maxHeartbeats 4000000 in
set_option maxRecDepth 100000 in
theorem c_MD_coinsOf {Z : ZT} (hZ : IsM Z) (l : Launch) (p1 : Int32) (M : Mem) (post : Int32 → Mem → Prop) (h : P_MD_coinsOf M p1 post) : CtI Z l yX9_coinsOf cX9_coinsOf 4 (some .int) 0 0 [.ref (zb Z + 0), .int p1] M post := by
  refine ctI (own := RX9) rfl (by decide) (Nat.le_of_ble_eq_true rfl) (fun X C E hr hQ => ?_)
  have s4 : ∀ (M : Mem) (x4_2 : Int32) (x4_3 : Int32), B_MD_coinsOf_4 p1 post (fun (M : Mem) (x4_2 : Int32) (x4_3 : Int32) => GS Z X 4 [(0, .ref (zb Z + 0)), (1, .int p1), (2, .int x4_2), (3, .int x4_3)] [] M) M x4_2 x4_3 → GS Z X 4 [(0, .ref (zb Z + 0)), (1, .int p1), (2, .int x4_2), (3, .int x4_3)] [] M := by
    intro M x4_2 x4_3 h
    unfold B_MD_coinsOf_4 at h
    refine g_iload_n (n := 5) (i := 3) C dX9_coinsOf_4 rfl 3 rfl rfl ?_
    refine g_aload_n (n := 6) (i := 0) C dX9_coinsOf_5 rfl 0 rfl rfl ?_
    refine gf_X9_69 (n := 9) C E (om_0 hZ) dX9_coinsOf_6 rfl ?_
    refine g_icmp_ge (n := 12) (tgt := 32) C dX9_coinsOf_9 (by decide) rfl (fun c => ?_) (fun c => ?_)
    · replace h := h.1 c
      refine g_iload_n (n := 33) (i := 2) C dX9_coinsOf_32 rfl 2 rfl rfl ?_
      exact g_iret C hr hQ dX9_coinsOf_33 h
    · replace h := h.2 c
      refine g_iload_n (n := 13) (i := 2) C dX9_coinsOf_12 rfl 2 rfl rfl ?_
      refine g_aload_n (n := 14) (i := 0) C dX9_coinsOf_13 rfl 0 rfl rfl ?_
      refine gf_X9_7 (n := 17) 1 C E (om_0 hZ) rfl dX9_coinsOf_14 rfl ?_
      refine g_iload_n (n := 18) (i := 1) C dX9_coinsOf_17 rfl 1 rfl rfl ?_
      refine g_bipush (n := 20) (44 : Int32) C dX9_coinsOf_18 (by decide) rfl ?_
      refine g_iadd (n := 21) C dX9_coinsOf_20 rfl ?_
      refine g_iload_n (n := 22) (i := 3) C dX9_coinsOf_21 rfl 3 rfl rfl ?_
      refine g_iadd (n := 23) C dX9_coinsOf_22 rfl ?_
      refine g_iald (n := 24) C E (om_1 hZ) h.1 dX9_coinsOf_23 rfl ?_
      replace h := h.2
      refine g_iadd (n := 25) C dX9_coinsOf_24 rfl ?_
      refine g_istore_n (n := 26) (i := 2) C dX9_coinsOf_25 rfl (Nat.le_of_ble_eq_true rfl) rfl rfl (fun z3 ez3 => ?_)
      replace h := h z3 ez3
      refine g_iinc (n := 29) (v := (1 : Int32)) C dX9_coinsOf_26 3 rfl (by decide) (Nat.le_of_ble_eq_true rfl) rfl rfl (fun z4 ez4 => ?_)
      replace h := h z4 ez4
      refine g_goto (tgt := 4) C dX9_coinsOf_29 (by decide) ?_
      exact g_sub [2, 3, 1, 0] rfl h
  replace h := h (fun (M : Mem) (x4_2 : Int32) (x4_3 : Int32) => GS Z X 4 [(0, .ref (zb Z + 0)), (1, .int p1), (2, .int x4_2), (3, .int x4_3)] [] M) s4
  unfold B_MD_coinsOf_i at h
  show GS Z X 0 [(0, .ref (zb Z + 0)), (1, .int p1)] [] M
  refine g_iconst (n := 1) (0 : Int32) C dX9_coinsOf_0 (by decide) rfl ?_
  refine g_istore_n (n := 2) (i := 2) C dX9_coinsOf_1 rfl (Nat.le_of_ble_eq_true rfl) rfl rfl (fun z1 ez1 => ?_)
  replace h := h z1 ez1
  refine g_iconst (n := 3) (0 : Int32) C dX9_coinsOf_2 (by decide) rfl ?_
  refine g_istore_n (n := 4) (i := 3) C dX9_coinsOf_3 rfl (Nat.le_of_ble_eq_true rfl) rfl rfl (fun z2 ez2 => ?_)
  replace h := h z2 ez2
  exact g_sub [2, 3, 1, 0] rfl h
def B_MD_season_i (p1 : Int32) (p2 : Int32) (p3 : Int32) (post : Int32 → Mem → Prop) (R43 : Mem → Int32 → Prop) (M : Mem)  : Prop :=
  P_MD_in M p1.toInt64 (0 : Int64) (9999 : Int64) (fun (r2 : Int32) (M1 : Mem) => (((r2 = 0) → post (-1 : Int32) M1) ∧ ((¬ r2 = 0) → P_MD_in M1 p2.toInt64 (1 : Int64) (60 : Int64) (fun (r4 : Int32) (M3 : Mem) => (((r4 = 0) → post (-1 : Int32) M3) ∧ ((¬ r4 = 0) → P_MD_in M3 p3.toInt64 (0 : Int64) (1 : Int64) (fun (r6 : Int32) (M5 : Mem) => (((¬ r6 = 0) → P_MD_tries M5 (fun (M7 : Mem) => ∀ z8 : Int32, z8 = (0 : Int32) → (R43 M7 z8))) ∧ ((r6 = 0) → post (-1 : Int32) M5)))))))))
def B_MD_season_43 (p1 : Int32) (p2 : Int32) (p3 : Int32) (post : Int32 → Mem → Prop) (R43 : Mem → Int32 → Prop) (M : Mem) (x43_4 : Int32) : Prop :=
  (((p2 ≤ x43_4) → (((¬ p3 = 0) → P_MD_coinsOf M (51 : Int32) (fun (r10 : Int32) (M9 : Mem) => post r10 M9)) ∧ ((p3 = 0) → P_MD_manyHow M (51 : Int32) (2 : Int32) (fun (r12 : Int32) (M11 : Mem) => post r12 M11)))) ∧ ((¬ p2 ≤ x43_4) → ∀ z13 : Int64, z13 = ((((7919 : Int64) * p1.toInt64) + ((6151 : Int64) * x43_4.toInt64)) + (1 : Int64)) → P_MD_doesBy M ((z13 * z13) - (z13 * z13) / (65521 : Int64) * (65521 : Int64)).toInt32 (fun (M14 : Mem) => P_MD_passes M14 (51 : Int32) (fun (M15 : Mem) => ∀ z16 : Int32, z16 = x43_4 + (1 : Int32) → (R43 M15 z16)))))
def P_MD_season (M : Mem) (p1 : Int32) (p2 : Int32) (p3 : Int32) (post : Int32 → Mem → Prop) : Prop :=
  ∀ (R43 : Mem → Int32 → Prop), (∀ (M : Mem) (x43_4 : Int32), B_MD_season_43 p1 p2 p3 post R43 M x43_4 → R43 M x43_4) → B_MD_season_i p1 p2 p3 post R43 M
set_option maxHeartbeats 4000000 in
set_option maxRecDepth 100000 in
theorem c_MD_season {Z : ZT} (hZ : IsM Z) (l : Launch) (p1 : Int32) (p2 : Int32) (p3 : Int32) (M : Mem) (post : Int32 → Mem → Prop) (h : P_MD_season M p1 p2 p3 post) : CtI Z l yX9_season cX9_season 7 (some .int) 4 89 [.ref (zb Z + 0), .int p1, .int p2, .int p3] M post := by
  refine ctI (own := RX9) rfl (by decide) (Nat.le_of_ble_eq_true rfl) (fun X C E hr hQ => ?_)
  have s43 : ∀ (M : Mem) (x43_4 : Int32), B_MD_season_43 p1 p2 p3 post (fun (M : Mem) (x43_4 : Int32) => GS Z X 43 [(0, .ref (zb Z + 0)), (1, .int p1), (2, .int p2), (3, .int p3), (4, .int x43_4)] [] M) M x43_4 → GS Z X 43 [(0, .ref (zb Z + 0)), (1, .int p1), (2, .int p2), (3, .int p3), (4, .int x43_4)] [] M := by
    intro M x43_4 h
    unfold B_MD_season_43 at h
    refine g_iload (n := 45) C dX9_season_43 4 rfl rfl ?_
    refine g_iload_n (n := 46) (i := 2) C dX9_season_45 rfl 2 rfl rfl ?_
    refine g_icmp_ge (n := 49) (tgt := 93) C dX9_season_46 (by decide) rfl (fun c => ?_) (fun c => ?_)
    · replace h := h.1 c
      refine g_iload_n (n := 94) (i := 3) C dX9_season_93 rfl 3 rfl rfl ?_
      refine g_if_ne (n := 97) (tgt := 107) C dX9_season_94 (by decide) rfl (fun c => ?_) (fun c => ?_)
      · replace h := h.1 c
        refine g_aload_n (n := 108) (i := 0) C dX9_season_107 rfl 0 rfl rfl ?_
        refine g_bipush (n := 110) (51 : Int32) C dX9_season_108 (by decide) rfl ?_
        refine g_callVi (n := 113) (kd := 9) C E (c_MD_coinsOf hZ _ (51 : Int32) M _ h) yi_X9_coinsOf wd_1122 rfl (om_0 hZ) (by decide) (Nat.le_of_ble_eq_true rfl) dX9_season_110 rfl rfl (fun r10 M9 h => ?_)
        exact g_iret C hr hQ dX9_season_113 h
      · replace h := h.2 c
        refine g_aload_n (n := 98) (i := 0) C dX9_season_97 rfl 0 rfl rfl ?_
        refine g_bipush (n := 100) (51 : Int32) C dX9_season_98 (by decide) rfl ?_
        refine g_iconst (n := 101) (2 : Int32) C dX9_season_100 (by decide) rfl ?_
        refine g_callVi (n := 104) (kd := 9) C E (c_MD_manyHow hZ _ (51 : Int32) (2 : Int32) M _ h) yi_X9_manyHow wd_1017 rfl (om_0 hZ) (by decide) (Nat.le_of_ble_eq_true rfl) dX9_season_101 rfl rfl (fun r12 M11 h => ?_)
        refine g_goto (tgt := 113) C dX9_season_104 (by decide) ?_
        exact g_iret C hr hQ dX9_season_113 h
    · replace h := h.2 c
      refine g_ldc2 (n := 52) (7919 : Int64) C wd_1115 dX9_season_49 rfl ?_
      refine g_iload_n (n := 53) (i := 1) C dX9_season_52 rfl 1 rfl rfl ?_
      refine g_i2l (n := 54) C dX9_season_53 rfl ?_
      refine g_lmul (n := 55) C dX9_season_54 rfl ?_
      refine g_ldc2 (n := 58) (6151 : Int64) C wd_1116 dX9_season_55 rfl ?_
      refine g_iload (n := 60) C dX9_season_58 4 rfl rfl ?_
      refine g_i2l (n := 61) C dX9_season_60 rfl ?_
      refine g_lmul (n := 62) C dX9_season_61 rfl ?_
      refine g_ladd (n := 63) C dX9_season_62 rfl ?_
      refine g_lconst (n := 64) (1 : Int64) C dX9_season_63 (by decide) rfl ?_
      refine g_ladd (n := 65) C dX9_season_64 rfl ?_
      refine g_lstore (n := 67) (i := 5) C dX9_season_65 (Nat.le_of_ble_eq_true rfl) rfl rfl (fun z13 ez13 => ?_)
      replace h := h z13 ez13
      refine g_aload_n (n := 68) (i := 0) C dX9_season_67 rfl 1 rfl rfl ?_
      refine g_lload (n := 70) C dX9_season_68 0 rfl rfl ?_
      refine g_lload (n := 72) C dX9_season_70 0 rfl rfl ?_
      refine g_lmul (n := 73) C dX9_season_72 rfl ?_
      refine g_ldc2 (n := 76) (65521 : Int64) C wd_1117 dX9_season_73 rfl ?_
      refine g_lrem (n := 77) C dX9_season_76 (by decide) rfl ?_
      refine g_l2i (n := 78) C dX9_season_77 rfl ?_
      refine g_callVv (n := 81) (kd := 9) C E (c_MD_doesBy hZ _ ((z13 * z13) - (z13 * z13) / (65521 : Int64) * (65521 : Int64)).toInt32 M _ h) yi_X9_doesBy wd_1118 rfl (om_0 hZ) (by decide) (Nat.le_of_ble_eq_true rfl) dX9_season_78 rfl rfl (fun M14 h => ?_)
      refine g_aload_n (n := 82) (i := 0) C dX9_season_81 rfl 1 rfl rfl ?_
      refine g_bipush (n := 84) (51 : Int32) C dX9_season_82 (by decide) rfl ?_
      refine g_callVv (n := 87) (kd := 9) C E (c_MD_passes hZ _ (51 : Int32) M14 _ h) yi_X9_passes wd_981 rfl (om_0 hZ) (by decide) (Nat.le_of_ble_eq_true rfl) dX9_season_84 rfl rfl (fun M15 h => ?_)
      refine g_iinc (n := 90) (v := (1 : Int32)) C dX9_season_87 5 rfl (by decide) (Nat.le_of_ble_eq_true rfl) rfl rfl (fun z16 ez16 => ?_)
      replace h := h z16 ez16
      refine g_goto (tgt := 43) C dX9_season_90 (by decide) ?_
      exact g_sub [2, 3, 4, 5, 0] rfl h
  replace h := h (fun (M : Mem) (x43_4 : Int32) => GS Z X 43 [(0, .ref (zb Z + 0)), (1, .int p1), (2, .int p2), (3, .int p3), (4, .int x43_4)] [] M) s43
  unfold B_MD_season_i at h
  show GS Z X 0 [(0, .ref (zb Z + 0)), (1, .int p1), (2, .int p2), (3, .int p3)] [] M
  refine g_iload_n (n := 1) (i := 1) C dX9_season_0 rfl 1 rfl rfl ?_
  refine g_i2l (n := 2) C dX9_season_1 rfl ?_
  refine g_lconst (n := 3) (0 : Int64) C dX9_season_2 (by decide) rfl ?_
  refine g_ldc2 (n := 6) (9999 : Int64) C wd_1113 dX9_season_3 rfl ?_
  refine g_callSi (n := 9) C E (c_MD_in hZ _ p1.toInt64 (0 : Int64) (9999 : Int64) M _ h) ys_X9_in wd_914 (by decide) (Nat.le_of_ble_eq_true rfl) dX9_season_6 rfl rfl (fun r2 M1 h => ?_)
  refine g_if_eq (n := 12) (tgt := 34) C dX9_season_9 (by decide) rfl (fun c => ?_) (fun c => ?_)
  · replace h := h.1 c
    refine g_iconst (n := 35) (-1 : Int32) C dX9_season_34 (by decide) rfl ?_
    exact g_iret C hr hQ dX9_season_35 h
  · replace h := h.2 c
    refine g_iload_n (n := 13) (i := 2) C dX9_season_12 rfl 2 rfl rfl ?_
    refine g_i2l (n := 14) C dX9_season_13 rfl ?_
    refine g_lconst (n := 15) (1 : Int64) C dX9_season_14 (by decide) rfl ?_
    refine g_ldc2 (n := 18) (60 : Int64) C wd_1114 dX9_season_15 rfl ?_
    refine g_callSi (n := 21) C E (c_MD_in hZ _ p2.toInt64 (1 : Int64) (60 : Int64) M1 _ h) ys_X9_in wd_914 (by decide) (Nat.le_of_ble_eq_true rfl) dX9_season_18 rfl rfl (fun r4 M3 h => ?_)
    refine g_if_eq (n := 24) (tgt := 34) C dX9_season_21 (by decide) rfl (fun c => ?_) (fun c => ?_)
    · replace h := h.1 c
      refine g_iconst (n := 35) (-1 : Int32) C dX9_season_34 (by decide) rfl ?_
      exact g_iret C hr hQ dX9_season_35 h
    · replace h := h.2 c
      refine g_iload_n (n := 25) (i := 3) C dX9_season_24 rfl 3 rfl rfl ?_
      refine g_i2l (n := 26) C dX9_season_25 rfl ?_
      refine g_lconst (n := 27) (0 : Int64) C dX9_season_26 (by decide) rfl ?_
      refine g_lconst (n := 28) (1 : Int64) C dX9_season_27 (by decide) rfl ?_
      refine g_callSi (n := 31) C E (c_MD_in hZ _ p3.toInt64 (0 : Int64) (1 : Int64) M3 _ h) ys_X9_in wd_914 (by decide) (Nat.le_of_ble_eq_true rfl) dX9_season_28 rfl rfl (fun r6 M5 h => ?_)
      refine g_if_ne (n := 34) (tgt := 36) C dX9_season_31 (by decide) rfl (fun c => ?_) (fun c => ?_)
      · replace h := h.1 c
        refine g_aload_n (n := 37) (i := 0) C dX9_season_36 rfl 0 rfl rfl ?_
        refine g_callVv (n := 40) (kd := 9) C E (c_MD_tries hZ _  M5 _ h) yi_X9_tries wd_1041 rfl (om_0 hZ) (by decide) (Nat.le_of_ble_eq_true rfl) dX9_season_37 rfl rfl (fun M7 h => ?_)
        refine g_iconst (n := 41) (0 : Int32) C dX9_season_40 (by decide) rfl ?_
        refine g_istore (n := 43) (i := 4) C dX9_season_41 (Nat.le_of_ble_eq_true rfl) rfl rfl (fun z8 ez8 => ?_)
        replace h := h z8 ez8
        exact g_sub [1, 2, 3, 4, 0] rfl h
      · replace h := h.2 c
        refine g_iconst (n := 35) (-1 : Int32) C dX9_season_34 (by decide) rfl ?_
        exact g_iret C hr hQ dX9_season_35 h
def B_MD_keep_i  (post : Int32 → Mem → Prop)  (M : Mem)  : Prop :=
  (((¬ (M 0 2) = (2 : Int32)) → P_MD_copy M (0 : Int32) ((102 : Int32) + ((51 : Int32) * (M 0 2))) (fun (M1 : Mem) => ∀ M2 : Mem, M2 = mset M1 0 2 ((M1 0 2) + (1 : Int32)) → post (M2 0 2) M2)) ∧ (((M 0 2) = (2 : Int32)) → post (-3 : Int32) M))
def P_MD_keep (M : Mem)  (post : Int32 → Mem → Prop) : Prop := B_MD_keep_i  post M
set_option maxHeartbeats 4000000 in
set_option maxRecDepth 100000 in
theorem c_MD_keep {Z : ZT} (hZ : IsM Z) (l : Launch)  (M : Mem) (post : Int32 → Mem → Prop) (h : P_MD_keep M  post) : CtI Z l yX9_keep cX9_keep 1 (some .int) 1 23 [.ref (zb Z + 0)] M post := by
  refine ctI (own := RX9) rfl (by decide) (Nat.le_of_ble_eq_true rfl) (fun X C E hr hQ => ?_)
  unfold P_MD_keep at h
  unfold B_MD_keep_i at h
  show GS Z X 0 [(0, .ref (zb Z + 0))] [] M
  refine g_aload_n (n := 1) (i := 0) C dX9_keep_0 rfl 0 rfl rfl ?_
  refine gf_X9_86 (n := 4) C E (om_0 hZ) dX9_keep_1 rfl ?_
  refine g_iconst (n := 5) (2 : Int32) C dX9_keep_4 (by decide) rfl ?_
  refine g_icmp_ne (n := 8) (tgt := 11) C dX9_keep_5 (by decide) rfl (fun c => ?_) (fun c => ?_)
  · replace h := h.1 c
    refine g_aload_n (n := 12) (i := 0) C dX9_keep_11 rfl 0 rfl rfl ?_
    refine g_iconst (n := 13) (0 : Int32) C dX9_keep_12 (by decide) rfl ?_
    refine g_bipush (n := 15) (102 : Int32) C dX9_keep_13 (by decide) rfl ?_
    refine g_bipush (n := 17) (51 : Int32) C dX9_keep_15 (by decide) rfl ?_
    refine g_aload_n (n := 18) (i := 0) C dX9_keep_17 rfl 0 rfl rfl ?_
    refine gf_X9_86 (n := 21) C E (om_0 hZ) dX9_keep_18 rfl ?_
    refine g_imul (n := 22) C dX9_keep_21 rfl ?_
    refine g_iadd (n := 23) C dX9_keep_22 rfl ?_
    refine g_callVv (n := 26) (kd := 9) C E (c_MD_copy hZ _ (0 : Int32) ((102 : Int32) + ((51 : Int32) * (M 0 2))) M _ h) yi_X9_copy wd_977 rfl (om_0 hZ) (by decide) (Nat.le_of_ble_eq_true rfl) dX9_keep_23 rfl rfl (fun M1 h => ?_)
    refine g_aload_n (n := 27) (i := 0) C dX9_keep_26 rfl 0 rfl rfl ?_
    refine g_dup (n := 28) C dX9_keep_27 rfl rfl ?_
    refine gf_X9_86 (n := 31) C E (om_0 hZ) dX9_keep_28 rfl ?_
    refine g_iconst (n := 32) (1 : Int32) C dX9_keep_31 (by decide) rfl ?_
    refine g_iadd (n := 33) C dX9_keep_32 rfl ?_
    refine gp_X9_86 (n := 36) C E (om_0 hZ) dX9_keep_33 rfl (fun M2 eM2 => ?_)
    replace h := h M2 eM2
    refine g_aload_n (n := 37) (i := 0) C dX9_keep_36 rfl 0 rfl rfl ?_
    refine gf_X9_86 (n := 40) C E (om_0 hZ) dX9_keep_37 rfl ?_
    exact g_iret C hr hQ dX9_keep_40 h
  · replace h := h.2 c
    refine g_bipush (n := 10) (-3 : Int32) C dX9_keep_8 (by decide) rfl ?_
    exact g_iret C hr hQ dX9_keep_10 h
def B_MD_back_i  (post : Int32 → Mem → Prop)  (M : Mem)  : Prop :=
  (((¬ (M 0 2) = 0) → ∀ M1 : Mem, M1 = mset M 0 2 ((M 0 2) - (1 : Int32)) → P_MD_copy M1 ((102 : Int32) + ((51 : Int32) * (M1 0 2))) (0 : Int32) (fun (M2 : Mem) => ∀ M3 : Mem, M3 = mset M2 0 1 (0 : Int32) → post (M3 0 2) M3)) ∧ (((M 0 2) = 0) → post (-2 : Int32) M))
def P_MD_back (M : Mem)  (post : Int32 → Mem → Prop) : Prop := B_MD_back_i  post M
set_option maxHeartbeats 4000000 in
set_option maxRecDepth 100000 in
theorem c_MD_back {Z : ZT} (hZ : IsM Z) (l : Launch)  (M : Mem) (post : Int32 → Mem → Prop) (h : P_MD_back M  post) : CtI Z l yX9_back cX9_back 1 (some .int) 1 23 [.ref (zb Z + 0)] M post := by
  refine ctI (own := RX9) rfl (by decide) (Nat.le_of_ble_eq_true rfl) (fun X C E hr hQ => ?_)
  unfold P_MD_back at h
  unfold B_MD_back_i at h
  show GS Z X 0 [(0, .ref (zb Z + 0))] [] M
  refine g_aload_n (n := 1) (i := 0) C dX9_back_0 rfl 0 rfl rfl ?_
  refine gf_X9_86 (n := 4) C E (om_0 hZ) dX9_back_1 rfl ?_
  refine g_if_ne (n := 7) (tgt := 10) C dX9_back_4 (by decide) rfl (fun c => ?_) (fun c => ?_)
  · replace h := h.1 c
    refine g_aload_n (n := 11) (i := 0) C dX9_back_10 rfl 0 rfl rfl ?_
    refine g_dup (n := 12) C dX9_back_11 rfl rfl ?_
    refine gf_X9_86 (n := 15) C E (om_0 hZ) dX9_back_12 rfl ?_
    refine g_iconst (n := 16) (1 : Int32) C dX9_back_15 (by decide) rfl ?_
    refine g_isub (n := 17) C dX9_back_16 rfl ?_
    refine gp_X9_86 (n := 20) C E (om_0 hZ) dX9_back_17 rfl (fun M1 eM1 => ?_)
    replace h := h M1 eM1
    refine g_aload_n (n := 21) (i := 0) C dX9_back_20 rfl 0 rfl rfl ?_
    refine g_bipush (n := 23) (102 : Int32) C dX9_back_21 (by decide) rfl ?_
    refine g_bipush (n := 25) (51 : Int32) C dX9_back_23 (by decide) rfl ?_
    refine g_aload_n (n := 26) (i := 0) C dX9_back_25 rfl 0 rfl rfl ?_
    refine gf_X9_86 (n := 29) C E (om_0 hZ) dX9_back_26 rfl ?_
    refine g_imul (n := 30) C dX9_back_29 rfl ?_
    refine g_iadd (n := 31) C dX9_back_30 rfl ?_
    refine g_iconst (n := 32) (0 : Int32) C dX9_back_31 (by decide) rfl ?_
    refine g_callVv (n := 35) (kd := 9) C E (c_MD_copy hZ _ ((102 : Int32) + ((51 : Int32) * (M1 0 2))) (0 : Int32) M1 _ h) yi_X9_copy wd_977 rfl (om_0 hZ) (by decide) (Nat.le_of_ble_eq_true rfl) dX9_back_32 rfl rfl (fun M2 h => ?_)
    refine g_aload_n (n := 36) (i := 0) C dX9_back_35 rfl 0 rfl rfl ?_
    refine g_iconst (n := 37) (0 : Int32) C dX9_back_36 (by decide) rfl ?_
    refine gp_X9_83 (n := 40) C E (om_0 hZ) dX9_back_37 rfl (fun M3 eM3 => ?_)
    replace h := h M3 eM3
    refine g_aload_n (n := 41) (i := 0) C dX9_back_40 rfl 0 rfl rfl ?_
    refine gf_X9_86 (n := 44) C E (om_0 hZ) dX9_back_41 rfl ?_
    exact g_iret C hr hQ dX9_back_44 h
  · replace h := h.2 c
    refine g_bipush (n := 9) (-2 : Int32) C dX9_back_7 (by decide) rfl ?_
    exact g_iret C hr hQ dX9_back_9 h
def B_MD_allToDo_i  (post : Int32 → Mem → Prop) (R4 : Mem → Int32 → Int32 → Prop) (M : Mem)  : Prop :=
  ∀ z1 : Int32, z1 = (0 : Int32) → ∀ z2 : Int32, z2 = (0 : Int32) → (R4 M z1 z2)
def B_MD_allToDo_4  (post : Int32 → Mem → Prop) (R4 : Mem → Int32 → Int32 → Prop) (M : Mem) (x4_1 : Int32) (x4_2 : Int32) : Prop :=
  ((((M 0 3) ≤ x4_2) → post x4_1 M) ∧ ((¬ (M 0 3) ≤ x4_2) → vp_in ((23 : Int32) + x4_2) 612 ∧ (∀ z3 : Int32, z3 = (x4_1 + (M 1 (((23 : Int32) + x4_2)).toNatClampNeg)) → ∀ z4 : Int32, z4 = x4_2 + (1 : Int32) → (R4 M z3 z4))))
def P_MD_allToDo (M : Mem)  (post : Int32 → Mem → Prop) : Prop :=
  ∀ (R4 : Mem → Int32 → Int32 → Prop), (∀ (M : Mem) (x4_1 : Int32) (x4_2 : Int32), B_MD_allToDo_4  post R4 M x4_1 x4_2 → R4 M x4_1 x4_2) → B_MD_allToDo_i  post R4 M
set_option maxHeartbeats 4000000 in
set_option maxRecDepth 100000 in
theorem c_MD_allToDo {Z : ZT} (hZ : IsM Z) (l : Launch)  (M : Mem) (post : Int32 → Mem → Prop) (h : P_MD_allToDo M  post) : CtI Z l yX9_allToDo cX9_allToDo 3 (some .int) 0 0 [.ref (zb Z + 0)] M post := by
  refine ctI (own := RX9) rfl (by decide) (Nat.le_of_ble_eq_true rfl) (fun X C E hr hQ => ?_)
  have s4 : ∀ (M : Mem) (x4_1 : Int32) (x4_2 : Int32), B_MD_allToDo_4  post (fun (M : Mem) (x4_1 : Int32) (x4_2 : Int32) => GS Z X 4 [(0, .ref (zb Z + 0)), (1, .int x4_1), (2, .int x4_2)] [] M) M x4_1 x4_2 → GS Z X 4 [(0, .ref (zb Z + 0)), (1, .int x4_1), (2, .int x4_2)] [] M := by
    intro M x4_1 x4_2 h
    unfold B_MD_allToDo_4 at h
    refine g_iload_n (n := 5) (i := 2) C dX9_allToDo_4 rfl 2 rfl rfl ?_
    refine g_aload_n (n := 6) (i := 0) C dX9_allToDo_5 rfl 0 rfl rfl ?_
    refine gf_X9_69 (n := 9) C E (om_0 hZ) dX9_allToDo_6 rfl ?_
    refine g_icmp_ge (n := 12) (tgt := 30) C dX9_allToDo_9 (by decide) rfl (fun c => ?_) (fun c => ?_)
    · replace h := h.1 c
      refine g_iload_n (n := 31) (i := 1) C dX9_allToDo_30 rfl 1 rfl rfl ?_
      exact g_iret C hr hQ dX9_allToDo_31 h
    · replace h := h.2 c
      refine g_iload_n (n := 13) (i := 1) C dX9_allToDo_12 rfl 1 rfl rfl ?_
      refine g_aload_n (n := 14) (i := 0) C dX9_allToDo_13 rfl 0 rfl rfl ?_
      refine gf_X9_7 (n := 17) 1 C E (om_0 hZ) rfl dX9_allToDo_14 rfl ?_
      refine g_bipush (n := 19) (23 : Int32) C dX9_allToDo_17 (by decide) rfl ?_
      refine g_iload_n (n := 20) (i := 2) C dX9_allToDo_19 rfl 2 rfl rfl ?_
      refine g_iadd (n := 21) C dX9_allToDo_20 rfl ?_
      refine g_iald (n := 22) C E (om_1 hZ) h.1 dX9_allToDo_21 rfl ?_
      replace h := h.2
      refine g_iadd (n := 23) C dX9_allToDo_22 rfl ?_
      refine g_istore_n (n := 24) (i := 1) C dX9_allToDo_23 rfl (Nat.le_of_ble_eq_true rfl) rfl rfl (fun z3 ez3 => ?_)
      replace h := h z3 ez3
      refine g_iinc (n := 27) (v := (1 : Int32)) C dX9_allToDo_24 2 rfl (by decide) (Nat.le_of_ble_eq_true rfl) rfl rfl (fun z4 ez4 => ?_)
      replace h := h z4 ez4
      refine g_goto (tgt := 4) C dX9_allToDo_27 (by decide) ?_
      exact g_sub [2, 1, 0] rfl h
  replace h := h (fun (M : Mem) (x4_1 : Int32) (x4_2 : Int32) => GS Z X 4 [(0, .ref (zb Z + 0)), (1, .int x4_1), (2, .int x4_2)] [] M) s4
  unfold B_MD_allToDo_i at h
  show GS Z X 0 [(0, .ref (zb Z + 0))] [] M
  refine g_iconst (n := 1) (0 : Int32) C dX9_allToDo_0 (by decide) rfl ?_
  refine g_istore_n (n := 2) (i := 1) C dX9_allToDo_1 rfl (Nat.le_of_ble_eq_true rfl) rfl rfl (fun z1 ez1 => ?_)
  replace h := h z1 ez1
  refine g_iconst (n := 3) (0 : Int32) C dX9_allToDo_2 (by decide) rfl ?_
  refine g_istore_n (n := 4) (i := 2) C dX9_allToDo_3 rfl (Nat.le_of_ble_eq_true rfl) rfl rfl (fun z2 ez2 => ?_)
  replace h := h z2 ez2
  exact g_sub [2, 1, 0] rfl h
def B_MD_count_i (p1 : Int32) (post : Int32 → Mem → Prop)  (M : Mem)  : Prop :=
  (((p1 = (0 : Int32)) → post (M 0 3) M) ∧ (((p1 = (1 : Int32)) → vp_in (0 : Int32) 612 ∧ (post (M 1 ((0 : Int32)).toNatClampNeg) M)) ∧ (((p1 = (2 : Int32)) → P_MD_manyHow M (0 : Int32) (0 : Int32) (fun (r2 : Int32) (M1 : Mem) => post r2 M1)) ∧ (((p1 = (3 : Int32)) → P_MD_manyHow M (0 : Int32) (1 : Int32) (fun (r4 : Int32) (M3 : Mem) => post r4 M3)) ∧ (((p1 = (4 : Int32)) → P_MD_manyHow M (0 : Int32) (2 : Int32) (fun (r6 : Int32) (M5 : Mem) => post r6 M5)) ∧ (((p1 = (5 : Int32)) → P_MD_manyHow M (0 : Int32) (3 : Int32) (fun (r8 : Int32) (M7 : Mem) => post r8 M7)) ∧ (((p1 = (6 : Int32)) → vp_in (1 : Int32) 612 ∧ (post (M 1 ((1 : Int32)).toNatClampNeg) M)) ∧ (((p1 = (7 : Int32)) → P_MD_coinsOf M (0 : Int32) (fun (r10 : Int32) (M9 : Mem) => post r10 M9)) ∧ (((p1 = (8 : Int32)) → P_MD_allToDo M (fun (r12 : Int32) (M11 : Mem) => post r12 M11)) ∧ (((p1 = (9 : Int32)) → post (M 0 8) M) ∧ (((p1 = (10 : Int32)) → post (M 0 1) M) ∧ (((p1 = (11 : Int32)) → post (M 0 2) M) ∧ (((p1 = (12 : Int32)) → post (M 0 12) M) ∧ ((¬ p1 = (0 : Int32) → ¬ p1 = (1 : Int32) → ¬ p1 = (2 : Int32) → ¬ p1 = (3 : Int32) → ¬ p1 = (4 : Int32) → ¬ p1 = (5 : Int32) → ¬ p1 = (6 : Int32) → ¬ p1 = (7 : Int32) → ¬ p1 = (8 : Int32) → ¬ p1 = (9 : Int32) → ¬ p1 = (10 : Int32) → ¬ p1 = (11 : Int32) → ¬ p1 = (12 : Int32) → post (-1 : Int32) M)))))))))))))))
def P_MD_count (M : Mem) (p1 : Int32) (post : Int32 → Mem → Prop) : Prop := B_MD_count_i p1 post M
set_option maxHeartbeats 4000000 in
set_option maxRecDepth 100000 in
theorem c_MD_count {Z : ZT} (hZ : IsM Z) (l : Launch) (p1 : Int32) (M : Mem) (post : Int32 → Mem → Prop) (h : P_MD_count M p1 post) : CtI Z l yX9_count cX9_count 2 (some .int) 1 24 [.ref (zb Z + 0), .int p1] M post := by
  refine ctI (own := RX9) rfl (by decide) (Nat.le_of_ble_eq_true rfl) (fun X C E hr hQ => ?_)
  unfold P_MD_count at h
  unfold B_MD_count_i at h
  show GS Z X 0 [(0, .ref (zb Z + 0)), (1, .int p1)] [] M
  refine g_iload_n (n := 1) (i := 1) C dX9_count_0 rfl 1 rfl rfl ?_
  by_cases c0 : p1 = (0 : Int32)
  · replace h := h.1 c0
    refine g_tableIn (off := 67) (tgt := 68) C dX9_count_1 c0 (by decide) (by decide) rfl (by decide) ?_
    refine g_aload_n (n := 69) (i := 0) C dX9_count_68 rfl 0 rfl rfl ?_
    refine gf_X9_69 (n := 72) C E (om_0 hZ) dX9_count_69 rfl ?_
    exact g_iret C hr hQ dX9_count_72 h
  by_cases c1 : p1 = (1 : Int32)
  · replace h := h.2.1 c1
    refine g_tableIn (off := 72) (tgt := 73) C dX9_count_1 c1 (by decide) (by decide) rfl (by decide) ?_
    refine g_aload_n (n := 74) (i := 0) C dX9_count_73 rfl 0 rfl rfl ?_
    refine gf_X9_7 (n := 77) 1 C E (om_0 hZ) rfl dX9_count_74 rfl ?_
    refine g_iconst (n := 78) (0 : Int32) C dX9_count_77 (by decide) rfl ?_
    refine g_iald (n := 79) C E (om_1 hZ) h.1 dX9_count_78 rfl ?_
    replace h := h.2
    exact g_iret C hr hQ dX9_count_79 h
  by_cases c2 : p1 = (2 : Int32)
  · replace h := h.2.2.1 c2
    refine g_tableIn (off := 79) (tgt := 80) C dX9_count_1 c2 (by decide) (by decide) rfl (by decide) ?_
    refine g_aload_n (n := 81) (i := 0) C dX9_count_80 rfl 0 rfl rfl ?_
    refine g_iconst (n := 82) (0 : Int32) C dX9_count_81 (by decide) rfl ?_
    refine g_iconst (n := 83) (0 : Int32) C dX9_count_82 (by decide) rfl ?_
    refine g_callVi (n := 86) (kd := 9) C E (c_MD_manyHow hZ _ (0 : Int32) (0 : Int32) M _ h) yi_X9_manyHow wd_1017 rfl (om_0 hZ) (by decide) (Nat.le_of_ble_eq_true rfl) dX9_count_83 rfl rfl (fun r2 M1 h => ?_)
    exact g_iret C hr hQ dX9_count_86 h
  by_cases c3 : p1 = (3 : Int32)
  · replace h := h.2.2.2.1 c3
    refine g_tableIn (off := 86) (tgt := 87) C dX9_count_1 c3 (by decide) (by decide) rfl (by decide) ?_
    refine g_aload_n (n := 88) (i := 0) C dX9_count_87 rfl 0 rfl rfl ?_
    refine g_iconst (n := 89) (0 : Int32) C dX9_count_88 (by decide) rfl ?_
    refine g_iconst (n := 90) (1 : Int32) C dX9_count_89 (by decide) rfl ?_
    refine g_callVi (n := 93) (kd := 9) C E (c_MD_manyHow hZ _ (0 : Int32) (1 : Int32) M _ h) yi_X9_manyHow wd_1017 rfl (om_0 hZ) (by decide) (Nat.le_of_ble_eq_true rfl) dX9_count_90 rfl rfl (fun r4 M3 h => ?_)
    exact g_iret C hr hQ dX9_count_93 h
  by_cases c4 : p1 = (4 : Int32)
  · replace h := h.2.2.2.2.1 c4
    refine g_tableIn (off := 93) (tgt := 94) C dX9_count_1 c4 (by decide) (by decide) rfl (by decide) ?_
    refine g_aload_n (n := 95) (i := 0) C dX9_count_94 rfl 0 rfl rfl ?_
    refine g_iconst (n := 96) (0 : Int32) C dX9_count_95 (by decide) rfl ?_
    refine g_iconst (n := 97) (2 : Int32) C dX9_count_96 (by decide) rfl ?_
    refine g_callVi (n := 100) (kd := 9) C E (c_MD_manyHow hZ _ (0 : Int32) (2 : Int32) M _ h) yi_X9_manyHow wd_1017 rfl (om_0 hZ) (by decide) (Nat.le_of_ble_eq_true rfl) dX9_count_97 rfl rfl (fun r6 M5 h => ?_)
    exact g_iret C hr hQ dX9_count_100 h
  by_cases c5 : p1 = (5 : Int32)
  · replace h := h.2.2.2.2.2.1 c5
    refine g_tableIn (off := 100) (tgt := 101) C dX9_count_1 c5 (by decide) (by decide) rfl (by decide) ?_
    refine g_aload_n (n := 102) (i := 0) C dX9_count_101 rfl 0 rfl rfl ?_
    refine g_iconst (n := 103) (0 : Int32) C dX9_count_102 (by decide) rfl ?_
    refine g_iconst (n := 104) (3 : Int32) C dX9_count_103 (by decide) rfl ?_
    refine g_callVi (n := 107) (kd := 9) C E (c_MD_manyHow hZ _ (0 : Int32) (3 : Int32) M _ h) yi_X9_manyHow wd_1017 rfl (om_0 hZ) (by decide) (Nat.le_of_ble_eq_true rfl) dX9_count_104 rfl rfl (fun r8 M7 h => ?_)
    exact g_iret C hr hQ dX9_count_107 h
  by_cases c6 : p1 = (6 : Int32)
  · replace h := h.2.2.2.2.2.2.1 c6
    refine g_tableIn (off := 107) (tgt := 108) C dX9_count_1 c6 (by decide) (by decide) rfl (by decide) ?_
    refine g_aload_n (n := 109) (i := 0) C dX9_count_108 rfl 0 rfl rfl ?_
    refine gf_X9_7 (n := 112) 1 C E (om_0 hZ) rfl dX9_count_109 rfl ?_
    refine g_iconst (n := 113) (1 : Int32) C dX9_count_112 (by decide) rfl ?_
    refine g_iald (n := 114) C E (om_1 hZ) h.1 dX9_count_113 rfl ?_
    replace h := h.2
    exact g_iret C hr hQ dX9_count_114 h
  by_cases c7 : p1 = (7 : Int32)
  · replace h := h.2.2.2.2.2.2.2.1 c7
    refine g_tableIn (off := 114) (tgt := 115) C dX9_count_1 c7 (by decide) (by decide) rfl (by decide) ?_
    refine g_aload_n (n := 116) (i := 0) C dX9_count_115 rfl 0 rfl rfl ?_
    refine g_iconst (n := 117) (0 : Int32) C dX9_count_116 (by decide) rfl ?_
    refine g_callVi (n := 120) (kd := 9) C E (c_MD_coinsOf hZ _ (0 : Int32) M _ h) yi_X9_coinsOf wd_1122 rfl (om_0 hZ) (by decide) (Nat.le_of_ble_eq_true rfl) dX9_count_117 rfl rfl (fun r10 M9 h => ?_)
    exact g_iret C hr hQ dX9_count_120 h
  by_cases c8 : p1 = (8 : Int32)
  · replace h := h.2.2.2.2.2.2.2.2.1 c8
    refine g_tableIn (off := 120) (tgt := 121) C dX9_count_1 c8 (by decide) (by decide) rfl (by decide) ?_
    refine g_aload_n (n := 122) (i := 0) C dX9_count_121 rfl 0 rfl rfl ?_
    refine g_callVi (n := 125) (kd := 9) C E (c_MD_allToDo hZ _  M _ h) yi_X9_allToDo wd_1138 rfl (om_0 hZ) (by decide) (Nat.le_of_ble_eq_true rfl) dX9_count_122 rfl rfl (fun r12 M11 h => ?_)
    exact g_iret C hr hQ dX9_count_125 h
  by_cases c9 : p1 = (9 : Int32)
  · replace h := h.2.2.2.2.2.2.2.2.2.1 c9
    refine g_tableIn (off := 125) (tgt := 126) C dX9_count_1 c9 (by decide) (by decide) rfl (by decide) ?_
    refine g_aload_n (n := 127) (i := 0) C dX9_count_126 rfl 0 rfl rfl ?_
    refine gf_X9_89 (n := 130) C E (om_0 hZ) dX9_count_127 rfl ?_
    exact g_iret C hr hQ dX9_count_130 h
  by_cases c10 : p1 = (10 : Int32)
  · replace h := h.2.2.2.2.2.2.2.2.2.2.1 c10
    refine g_tableIn (off := 130) (tgt := 131) C dX9_count_1 c10 (by decide) (by decide) rfl (by decide) ?_
    refine g_aload_n (n := 132) (i := 0) C dX9_count_131 rfl 0 rfl rfl ?_
    refine gf_X9_83 (n := 135) C E (om_0 hZ) dX9_count_132 rfl ?_
    exact g_iret C hr hQ dX9_count_135 h
  by_cases c11 : p1 = (11 : Int32)
  · replace h := h.2.2.2.2.2.2.2.2.2.2.2.1 c11
    refine g_tableIn (off := 135) (tgt := 136) C dX9_count_1 c11 (by decide) (by decide) rfl (by decide) ?_
    refine g_aload_n (n := 137) (i := 0) C dX9_count_136 rfl 0 rfl rfl ?_
    refine gf_X9_86 (n := 140) C E (om_0 hZ) dX9_count_137 rfl ?_
    exact g_iret C hr hQ dX9_count_140 h
  by_cases c12 : p1 = (12 : Int32)
  · replace h := h.2.2.2.2.2.2.2.2.2.2.2.2.1 c12
    refine g_tableIn (off := 140) (tgt := 141) C dX9_count_1 c12 (by decide) (by decide) rfl (by decide) ?_
    refine g_aload_n (n := 142) (i := 0) C dX9_count_141 rfl 0 rfl rfl ?_
    refine gf_X9_96 (n := 145) C E (om_0 hZ) dX9_count_142 rfl ?_
    exact g_iret C hr hQ dX9_count_145 h
  replace h := h.2.2.2.2.2.2.2.2.2.2.2.2.2 c0 c1 c2 c3 c4 c5 c6 c7 c8 c9 c10 c11 c12
  refine g_tableOut (tgt := 146) C dX9_count_1 (tbl_out (fun k h1 h2 e => ?_)) (by decide) ?_
  · rcases (show k = 0 ∨ k = 1 ∨ k = 2 ∨ k = 3 ∨ k = 4 ∨ k = 5 ∨ k = 6 ∨ k = 7 ∨ k = 8 ∨ k = 9 ∨ k = 10 ∨ k = 11 ∨ k = 12 by omega) with rfl | rfl | rfl | rfl | rfl | rfl | rfl | rfl | rfl | rfl | rfl | rfl | rfl
    · exact c0 e
    · exact c1 e
    · exact c2 e
    · exact c3 e
    · exact c4 e
    · exact c5 e
    · exact c6 e
    · exact c7 e
    · exact c8 e
    · exact c9 e
    · exact c10 e
    · exact c11 e
    · exact c12 e
  · refine g_iconst (n := 147) (-1 : Int32) C dX9_count_146 (by decide) rfl ?_
    exact g_iret C hr hQ dX9_count_147 h
