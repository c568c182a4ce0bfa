def B_Shelf_isFull_i (a : Nat) (ln : Nat) (post : Int32 → Mem → Prop)  (M : Mem)  : Prop :=
  ((((M a 1) < (Int32.ofNat ln)) → post (0 : Int32) M) ∧ ((¬ (M a 1) < (Int32.ofNat ln)) → post (1 : Int32) M))
def P_Shelf_isFull (M : Mem) (a : Nat) (ln : Nat) (post : Int32 → Mem → Prop) : Prop := B_Shelf_isFull_i a ln post M
set_option maxHeartbeats 4000000 in
set_option maxRecDepth 100000 in
theorem c_Shelf_isFull {Z : ZT} (hZ : IsX Z) (l : Launch) (a : Nat) (ln : Nat) (ha : Hf a ln) (M : Mem) (post : Int32 → Mem → Prop) (h : P_Shelf_isFull M a ln post) : CtI Z l yX6_isFull cX6_isFull 1 (some .boolean) 0 0 [.ref (zb Z + a)] M post := by
  refine ctI (own := RX6) rfl (by decide) (Nat.le_of_ble_eq_true rfl) (fun X C E hr hQ => ?_)
  unfold P_Shelf_isFull at h
  unfold B_Shelf_isFull_i at h
  show GS Z X 0 [(0, .ref (zb Z + a))] [] M
  refine g_aload_n (n := 1) (i := 0) C dX6_isFull_0 rfl 0 rfl rfl ?_
  refine gf_X6_7 (n := 4) C E (Hf.o hZ ha) dX6_isFull_1 rfl ?_
  refine g_aload_n (n := 5) (i := 0) C dX6_isFull_4 rfl 0 rfl rfl ?_
  refine gf_X6_21 (n := 8) (a + 1) C E (Hf.o hZ ha) rfl dX6_isFull_5 rfl ?_
  refine g_rlen (n := 9) (Int32.ofNat ln) C E (Hf.f1 hZ ha) rfl dX6_isFull_8 rfl ?_
  refine g_icmp_lt (n := 12) (tgt := 16) C dX6_isFull_9 (by decide) rfl (fun c => ?_) (fun c => ?_)
  · replace h := h.1 c
    refine g_iconst (n := 17) (0 : Int32) C dX6_isFull_16 (by decide) rfl ?_
    exact g_zret C hr hQ dX6_isFull_17 rfl h
  · replace h := h.2 c
    refine g_iconst (n := 13) (1 : Int32) C dX6_isFull_12 (by decide) rfl ?_
    refine g_goto (tgt := 17) C dX6_isFull_13 (by decide) ?_
    exact g_zret C hr hQ dX6_isFull_17 rfl h
def B_Shelf_clear_i (a : Nat) (ln : Nat) (post : Mem → Prop)  (M : Mem)  : Prop :=
  ∀ M1 : Mem, M1 = mset M a 1 (0 : Int32) → post M1
def P_Shelf_clear (M : Mem) (a : Nat) (ln : Nat) (post : Mem → Prop) : Prop := B_Shelf_clear_i a ln post M
set_option maxHeartbeats 4000000 in
set_option maxRecDepth 100000 in
theorem c_Shelf_clear {Z : ZT} (hZ : IsX Z) (l : Launch) (a : Nat) (ln : Nat) (ha : Hf a ln) (M : Mem) (post : Mem → Prop) (h : P_Shelf_clear M a ln post) : CtV Z l yX6_clear cX6_clear 1 none 0 0 [.ref (zb Z + a)] M post := by
  refine ctV (own := RX6) rfl (by decide) (Nat.le_of_ble_eq_true rfl) (fun X C E hr hQ => ?_)
  unfold P_Shelf_clear at h
  unfold B_Shelf_clear_i at h
  show GS Z X 0 [(0, .ref (zb Z + a))] [] M
  refine g_aload_n (n := 1) (i := 0) C dX6_clear_0 rfl 0 rfl rfl ?_
  refine g_iconst (n := 2) (0 : Int32) C dX6_clear_1 (by decide) rfl ?_
  refine gp_X6_7 (n := 5) C E (Hf.o hZ ha) dX6_clear_2 rfl (fun M1 eM1 => ?_)
  replace h := h M1 eM1
  exact g_vret C hr hQ dX6_clear_5 h
def B_Shelf_dropOldest_i (a : Nat) (ln : Nat) (post : Mem → Prop) (R22 : Mem → Int32 → Nat → Int32 → Prop) (M : Mem)  : Prop :=
  ∀ z1 : Int32, z1 = ((Int32.ofNat ln) - (1 : Int32)) → (((0 ≤ z1) → vp_in (0 : Int32) ln ∧ (∀ z2 : Int32, z2 = (0 : Int32) → (R22 M z1 ((M (a + 1) ((0 : Int32)).toNatClampNeg).toNatClampNeg) z2))) ∧ ((¬ 0 ≤ z1) → post M))
def B_Shelf_dropOldest_22 (a : Nat) (ln : Nat) (post : Mem → Prop) (R22 : Mem → Int32 → Nat → Int32 → Prop) (M : Mem) (x22_1 : Int32) (x22_2 : Nat) (x22_3 : Int32) : Prop :=
  (((x22_1 ≤ x22_3) → vp_in x22_1 ln ∧ (Hh x22_2 ∧ (∀ M3 : Mem, M3 = mset M (a + 1) (x22_1).toNatClampNeg (nI x22_2) → ∀ M4 : Mem, M4 = mset M3 a 1 x22_1 → post M4))) ∧ ((¬ x22_1 ≤ x22_3) → vp_in (x22_3 + (1 : Int32)) ln ∧ (vp_in x22_3 ln ∧ (Hh ((M (a + 1) ((x22_3 + (1 : Int32))).toNatClampNeg).toNatClampNeg) ∧ (∀ M5 : Mem, M5 = mset M (a + 1) (x22_3).toNatClampNeg (nI ((M (a + 1) ((x22_3 + (1 : Int32))).toNatClampNeg).toNatClampNeg)) → ∀ z6 : Int32, z6 = x22_3 + (1 : Int32) → (R22 M5 x22_1 x22_2 z6))))))
def P_Shelf_dropOldest (M : Mem) (a : Nat) (ln : Nat) (post : Mem → Prop) : Prop :=
  ∀ (R22 : Mem → Int32 → Nat → Int32 → Prop), (∀ (M : Mem) (x22_1 : Int32) (x22_2 : Nat) (x22_3 : Int32), B_Shelf_dropOldest_22 a ln post R22 M x22_1 x22_2 x22_3 → R22 M x22_1 x22_2 x22_3) → B_Shelf_dropOldest_i a ln post R22 M
set_option maxHeartbeats 4000000 in
set_option maxRecDepth 100000 in
theorem c_Shelf_dropOldest {Z : ZT} (hZ : IsX Z) (l : Launch) (a : Nat) (ln : Nat) (ha : Hf a ln) (M : Mem) (post : Mem → Prop) (h : P_Shelf_dropOldest M a ln post) : CtV Z l yX6_dropOldest cX6_dropOldest 4 none 0 0 [.ref (zb Z + a)] M post := by
  refine ctV (own := RX6) rfl (by decide) (Nat.le_of_ble_eq_true rfl) (fun X C E hr hQ => ?_)
  have s22 : ∀ (M : Mem) (x22_1 : Int32) (x22_2 : Nat) (x22_3 : Int32), B_Shelf_dropOldest_22 a ln post (fun (M : Mem) (x22_1 : Int32) (x22_2 : Nat) (x22_3 : Int32) => GS Z X 22 [(0, .ref (zb Z + a)), (1, .int x22_1), (2, .ref (zb Z + x22_2)), (3, .int x22_3)] [] M) M x22_1 x22_2 x22_3 → GS Z X 22 [(0, .ref (zb Z + a)), (1, .int x22_1), (2, .ref (zb Z + x22_2)), (3, .int x22_3)] [] M := by
    intro M x22_1 x22_2 x22_3 h
    unfold B_Shelf_dropOldest_22 at h
    refine g_iload_n (n := 23) (i := 3) C dX6_dropOldest_22 rfl 3 rfl rfl ?_
    refine g_iload_n (n := 24) (i := 1) C dX6_dropOldest_23 rfl 1 rfl rfl ?_
    refine g_icmp_ge (n := 27) (tgt := 47) C dX6_dropOldest_24 (by decide) rfl (fun c => ?_) (fun c => ?_)
    · replace h := h.1 c
      refine g_aload_n (n := 48) (i := 0) C dX6_dropOldest_47 rfl 0 rfl rfl ?_
      refine gf_X6_21 (n := 51) (a + 1) C E (Hf.o hZ ha) rfl dX6_dropOldest_48 rfl ?_
      refine g_iload_n (n := 52) (i := 1) C dX6_dropOldest_51 rfl 1 rfl rfl ?_
      refine g_aload_n (n := 53) (i := 2) C dX6_dropOldest_52 rfl 2 rfl rfl ?_
      refine g_aast (n := 54) C E (Hf.f1 hZ ha) (Hh.o hZ h.2.1) (Hh.lt h.2.1) h.1 dX6_dropOldest_53 rfl (fun M3 eM3 => ?_)
      replace h := h.2.2 M3 eM3
      refine g_aload_n (n := 55) (i := 0) C dX6_dropOldest_54 rfl 0 rfl rfl ?_
      refine g_iload_n (n := 56) (i := 1) C dX6_dropOldest_55 rfl 1 rfl rfl ?_
      refine gp_X6_7 (n := 59) C E (Hf.o hZ ha) dX6_dropOldest_56 rfl (fun M4 eM4 => ?_)
      replace h := h M4 eM4
      exact g_vret C hr hQ dX6_dropOldest_59 h
    · replace h := h.2 c
      refine g_aload_n (n := 28) (i := 0) C dX6_dropOldest_27 rfl 0 rfl rfl ?_
      refine gf_X6_21 (n := 31) (a + 1) C E (Hf.o hZ ha) rfl dX6_dropOldest_28 rfl ?_
      refine g_iload_n (n := 32) (i := 3) C dX6_dropOldest_31 rfl 3 rfl rfl ?_
      refine g_aload_n (n := 33) (i := 0) C dX6_dropOldest_32 rfl 0 rfl rfl ?_
      refine gf_X6_21 (n := 36) (a + 1) C E (Hf.o hZ ha) rfl dX6_dropOldest_33 rfl ?_
      refine g_iload_n (n := 37) (i := 3) C dX6_dropOldest_36 rfl 3 rfl rfl ?_
      refine g_iconst (n := 38) (1 : Int32) C dX6_dropOldest_37 (by decide) rfl ?_
      refine g_iadd (n := 39) C dX6_dropOldest_38 rfl ?_
      refine g_aald (n := 40) C E (Hf.f1 hZ ha) h.1 dX6_dropOldest_39 rfl ?_
      replace h := h.2
      refine g_aast (n := 41) C E (Hf.f1 hZ ha) (Hh.o hZ h.2.1) (Hh.lt h.2.1) h.1 dX6_dropOldest_40 rfl (fun M5 eM5 => ?_)
      replace h := h.2.2 M5 eM5
      refine g_iinc (n := 44) (v := (1 : Int32)) C dX6_dropOldest_41 3 rfl (by decide) (Nat.le_of_ble_eq_true rfl) rfl rfl (fun z6 ez6 => ?_)
      replace h := h z6 ez6
      refine g_goto (tgt := 22) C dX6_dropOldest_44 (by decide) ?_
      exact g_sub [1, 2, 3, 0] rfl h
  replace h := h (fun (M : Mem) (x22_1 : Int32) (x22_2 : Nat) (x22_3 : Int32) => GS Z X 22 [(0, .ref (zb Z + a)), (1, .int x22_1), (2, .ref (zb Z + x22_2)), (3, .int x22_3)] [] M) s22
  unfold B_Shelf_dropOldest_i at h
  show GS Z X 0 [(0, .ref (zb Z + a))] [] M
  refine g_aload_n (n := 1) (i := 0) C dX6_dropOldest_0 rfl 0 rfl rfl ?_
  refine gf_X6_21 (n := 4) (a + 1) C E (Hf.o hZ ha) rfl dX6_dropOldest_1 rfl ?_
  refine g_rlen (n := 5) (Int32.ofNat ln) C E (Hf.f1 hZ ha) rfl dX6_dropOldest_4 rfl ?_
  refine g_iconst (n := 6) (1 : Int32) C dX6_dropOldest_5 (by decide) rfl ?_
  refine g_isub (n := 7) C dX6_dropOldest_6 rfl ?_
  refine g_istore_n (n := 8) (i := 1) C dX6_dropOldest_7 rfl (Nat.le_of_ble_eq_true rfl) rfl rfl (fun z1 ez1 => ?_)
  replace h := h z1 ez1
  refine g_iload_n (n := 9) (i := 1) C dX6_dropOldest_8 rfl 0 rfl rfl ?_
  refine g_if_ge (n := 12) (tgt := 13) C dX6_dropOldest_9 (by decide) rfl (fun c => ?_) (fun c => ?_)
  · replace h := h.1 c
    refine g_aload_n (n := 14) (i := 0) C dX6_dropOldest_13 rfl 1 rfl rfl ?_
    refine gf_X6_21 (n := 17) (a + 1) C E (Hf.o hZ ha) rfl dX6_dropOldest_14 rfl ?_
    refine g_iconst (n := 18) (0 : Int32) C dX6_dropOldest_17 (by decide) rfl ?_
    refine g_aald (n := 19) C E (Hf.f1 hZ ha) h.1 dX6_dropOldest_18 rfl ?_
    replace h := h.2
    refine g_astore_n (n := 20) (i := 2) C dX6_dropOldest_19 rfl (Nat.le_of_ble_eq_true rfl) rfl rfl ?_
    refine g_iconst (n := 21) (0 : Int32) C dX6_dropOldest_20 (by decide) rfl ?_
    refine g_istore_n (n := 22) (i := 3) C dX6_dropOldest_21 rfl (Nat.le_of_ble_eq_true rfl) rfl rfl (fun z2 ez2 => ?_)
    replace h := h z2 ez2
    exact g_sub [3, 2, 1, 0] rfl h
  · replace h := h.2 c
    exact g_vret C hr hQ dX6_dropOldest_12 h
def B_Shelf_put_i (a : Nat) (ln : Nat) (p1 : Nat) (post : Mem → Prop) (R11 : Mem → Prop) (M : Mem)  : Prop :=
  P_Shelf_isFull M a ln (fun (r2 : Int32) (M1 : Mem) => (((r2 = 0) → (R11 M1)) ∧ ((¬ r2 = 0) → P_Shelf_dropOldest M1 a ln (fun (M3 : Mem) => (R11 M3)))))
def B_Shelf_put_11 (a : Nat) (ln : Nat) (p1 : Nat) (post : Mem → Prop) (R11 : Mem → Prop) (M : Mem)  : Prop :=
  ((((M a 1) < 0) → post M) ∧ ((¬ (M a 1) < 0) → ((((M a 1) < (Int32.ofNat ln)) → vp_in (M a 1) ln ∧ (Hh ((M (a + 1) ((M a 1)).toNatClampNeg).toNatClampNeg) ∧ (P_House_copyFrom M ((M (a + 1) ((M a 1)).toNatClampNeg).toNatClampNeg) p1 (fun (M5 : Mem) => ∀ M6 : Mem, M6 = mset M5 a 1 ((M5 a 1) + (1 : Int32)) → post M6)))) ∧ ((¬ (M a 1) < (Int32.ofNat ln)) → post M))))
def P_Shelf_put (M : Mem) (a : Nat) (ln : Nat) (p1 : Nat) (post : Mem → Prop) : Prop :=
  ∀ (R11 : Mem → Prop), (∀ (M : Mem) , B_Shelf_put_11 a ln p1 post R11 M  → R11 M ) → B_Shelf_put_i a ln p1 post R11 M
set_option maxHeartbeats 4000000 in
set_option maxRecDepth 100000 in
theorem c_Shelf_put {Z : ZT} (hZ : IsX Z) (l : Launch) (a : Nat) (ln : Nat) (ha : Hf a ln) (p1 : Nat) (hp1 : Hh p1) (M : Mem) (post : Mem → Prop) (h : P_Shelf_put M a ln p1 post) : CtV Z l yX6_put cX6_put 3 none 1 23 [.ref (zb Z + a), .ref (zb Z + p1)] M post := by
  refine ctV (own := RX6) rfl (by decide) (Nat.le_of_ble_eq_true rfl) (fun X C E hr hQ => ?_)
  have s11 : ∀ (M : Mem) , B_Shelf_put_11 a ln p1 post (fun (M : Mem)  => GS Z X 11 [(0, .ref (zb Z + a)), (1, .ref (zb Z + p1))] [] M) M  → GS Z X 11 [(0, .ref (zb Z + a)), (1, .ref (zb Z + p1))] [] M := by
    intro M  h
    unfold B_Shelf_put_11 at h
    refine g_aload_n (n := 12) (i := 0) C dX6_put_11 rfl 0 rfl rfl ?_
    refine gf_X6_7 (n := 15) C E (Hf.o hZ ha) dX6_put_12 rfl ?_
    refine g_if_lt (n := 18) (tgt := 30) C dX6_put_15 (by decide) rfl (fun c => ?_) (fun c => ?_)
    · replace h := h.1 c
      exact g_vret C hr hQ dX6_put_30 h
    · replace h := h.2 c
      refine g_aload_n (n := 19) (i := 0) C dX6_put_18 rfl 0 rfl rfl ?_
      refine gf_X6_7 (n := 22) C E (Hf.o hZ ha) dX6_put_19 rfl ?_
      refine g_aload_n (n := 23) (i := 0) C dX6_put_22 rfl 0 rfl rfl ?_
      refine gf_X6_21 (n := 26) (a + 1) C E (Hf.o hZ ha) rfl dX6_put_23 rfl ?_
      refine g_rlen (n := 27) (Int32.ofNat ln) C E (Hf.f1 hZ ha) rfl dX6_put_26 rfl ?_
      refine g_icmp_lt (n := 30) (tgt := 31) C dX6_put_27 (by decide) rfl (fun c => ?_) (fun c => ?_)
      · replace h := h.1 c
        refine g_aload_n (n := 32) (i := 0) C dX6_put_31 rfl 0 rfl rfl ?_
        refine gf_X6_21 (n := 35) (a + 1) C E (Hf.o hZ ha) rfl dX6_put_32 rfl ?_
        refine g_aload_n (n := 36) (i := 0) C dX6_put_35 rfl 0 rfl rfl ?_
        refine gf_X6_7 (n := 39) C E (Hf.o hZ ha) dX6_put_36 rfl ?_
        refine g_aald (n := 40) C E (Hf.f1 hZ ha) h.1 dX6_put_39 rfl ?_
        replace h := h.2
        refine g_astore_n (n := 41) (i := 2) C dX6_put_40 rfl (Nat.le_of_ble_eq_true rfl) rfl rfl ?_
        refine g_aload_n (n := 42) (i := 2) C dX6_put_41 rfl 0 rfl rfl ?_
        refine g_ifnull (n := 45) C dX6_put_42 rfl ?_
        refine g_aload_n (n := 46) (i := 2) C dX6_put_45 rfl 0 rfl rfl ?_
        refine g_aload_n (n := 47) (i := 1) C dX6_put_46 rfl 2 rfl rfl ?_
        have hs4 := h.1
        replace h := h.2
        refine g_callNv (n := 50) (kd := 2) C E (c_House_copyFrom hZ _ ((M (a + 1) ((M a 1)).toNatClampNeg).toNatClampNeg) hs4 p1 hp1 M _ h) yi_X2_copyFrom wn_528 rfl (Hh.o hZ hs4) (by decide) (Nat.le_of_ble_eq_true rfl) dX6_put_47 rfl rfl (fun M5 h => ?_)
        refine g_aload_n (n := 51) (i := 0) C dX6_put_50 rfl 1 rfl rfl ?_
        refine g_dup (n := 52) C dX6_put_51 rfl rfl ?_
        refine gf_X6_7 (n := 55) C E (Hf.o hZ ha) dX6_put_52 rfl ?_
        refine g_iconst (n := 56) (1 : Int32) C dX6_put_55 (by decide) rfl ?_
        refine g_iadd (n := 57) C dX6_put_56 rfl ?_
        refine gp_X6_7 (n := 60) C E (Hf.o hZ ha) dX6_put_57 rfl (fun M6 eM6 => ?_)
        replace h := h M6 eM6
        exact g_vret C hr hQ dX6_put_60 h
      · replace h := h.2 c
        exact g_vret C hr hQ dX6_put_30 h
  replace h := h (fun (M : Mem)  => GS Z X 11 [(0, .ref (zb Z + a)), (1, .ref (zb Z + p1))] [] M) s11
  unfold B_Shelf_put_i at h
  show GS Z X 0 [(0, .ref (zb Z + a)), (1, .ref (zb Z + p1))] [] M
  refine g_aload_n (n := 1) (i := 0) C dX6_put_0 rfl 0 rfl rfl ?_
  refine g_callVi (n := 4) (kd := 6) C E (c_Shelf_isFull hZ _ a ln ha M _ h) yi_X6_isFull wd_520 rfl (Hf.o hZ ha) (by decide) (Nat.le_of_ble_eq_true rfl) dX6_put_1 rfl rfl (fun r2 M1 h => ?_)
  refine g_if_eq (n := 7) (tgt := 11) C dX6_put_4 (by decide) rfl (fun c => ?_) (fun c => ?_)
  · replace h := h.1 c
    exact g_sub [0, 1] rfl h
  · replace h := h.2 c
    refine g_aload_n (n := 8) (i := 0) C dX6_put_7 rfl 0 rfl rfl ?_
    refine g_callVv (n := 11) (kd := 6) C E (c_Shelf_dropOldest hZ _ a ln ha M1 _ h) yi_X6_dropOldest wd_524 rfl (Hf.o hZ ha) (by decide) (Nat.le_of_ble_eq_true rfl) dX6_put_8 rfl rfl (fun M3 h => ?_)
    exact g_sub [0, 1] rfl h
def B_Shelf_takeInto_i (a : Nat) (ln : Nat) (p1 : Nat) (post : Int32 → Mem → Prop)  (M : Mem)  : Prop :=
  ((((M a 1) < (1 : Int32)) → post (0 : Int32) M) ∧ ((¬ (M a 1) < (1 : Int32)) → ((((M a 1) ≤ (Int32.ofNat ln)) → vp_in ((M a 1) - (1 : Int32)) ln ∧ (Hh ((M (a + 1) (((M a 1) - (1 : Int32))).toNatClampNeg).toNatClampNeg) ∧ (P_House_copyFrom M p1 ((M (a + 1) (((M a 1) - (1 : Int32))).toNatClampNeg).toNatClampNeg) (fun (M2 : Mem) => ∀ M3 : Mem, M3 = mset M2 a 1 ((M2 a 1) - (1 : Int32)) → post (1 : Int32) M3)))) ∧ ((¬ (M a 1) ≤ (Int32.ofNat ln)) → post (0 : Int32) M))))
def P_Shelf_takeInto (M : Mem) (a : Nat) (ln : Nat) (p1 : Nat) (post : Int32 → Mem → Prop) : Prop := B_Shelf_takeInto_i a ln p1 post M
set_option maxHeartbeats 4000000 in
set_option maxRecDepth 100000 in
theorem c_Shelf_takeInto {Z : ZT} (hZ : IsX Z) (l : Launch) (a : Nat) (ln : Nat) (ha : Hf a ln) (p1 : Nat) (hp1 : Hh p1) (M : Mem) (post : Int32 → Mem → Prop) (h : P_Shelf_takeInto M a ln p1 post) : CtI Z l yX6_takeInto cX6_takeInto 3 (some .boolean) 1 22 [.ref (zb Z + a), .ref (zb Z + p1)] M post := by
  refine ctI (own := RX6) rfl (by decide) (Nat.le_of_ble_eq_true rfl) (fun X C E hr hQ => ?_)
  unfold P_Shelf_takeInto at h
  unfold B_Shelf_takeInto_i at h
  show GS Z X 0 [(0, .ref (zb Z + a)), (1, .ref (zb Z + p1))] [] M
  refine g_aload_n (n := 1) (i := 0) C dX6_takeInto_0 rfl 0 rfl rfl ?_
  refine gf_X6_7 (n := 4) C E (Hf.o hZ ha) dX6_takeInto_1 rfl ?_
  refine g_iconst (n := 5) (1 : Int32) C dX6_takeInto_4 (by decide) rfl ?_
  refine g_icmp_lt (n := 8) (tgt := 20) C dX6_takeInto_5 (by decide) rfl (fun c => ?_) (fun c => ?_)
  · replace h := h.1 c
    refine g_iconst (n := 21) (0 : Int32) C dX6_takeInto_20 (by decide) rfl ?_
    exact g_zret C hr hQ dX6_takeInto_21 rfl h
  · replace h := h.2 c
    refine g_aload_n (n := 9) (i := 0) C dX6_takeInto_8 rfl 0 rfl rfl ?_
    refine gf_X6_7 (n := 12) C E (Hf.o hZ ha) dX6_takeInto_9 rfl ?_
    refine g_aload_n (n := 13) (i := 0) C dX6_takeInto_12 rfl 0 rfl rfl ?_
    refine gf_X6_21 (n := 16) (a + 1) C E (Hf.o hZ ha) rfl dX6_takeInto_13 rfl ?_
    refine g_rlen (n := 17) (Int32.ofNat ln) C E (Hf.f1 hZ ha) rfl dX6_takeInto_16 rfl ?_
    refine g_icmp_le (n := 20) (tgt := 22) C dX6_takeInto_17 (by decide) rfl (fun c => ?_) (fun c => ?_)
    · replace h := h.1 c
      refine g_aload_n (n := 23) (i := 0) C dX6_takeInto_22 rfl 0 rfl rfl ?_
      refine gf_X6_21 (n := 26) (a + 1) C E (Hf.o hZ ha) rfl dX6_takeInto_23 rfl ?_
      refine g_aload_n (n := 27) (i := 0) C dX6_takeInto_26 rfl 0 rfl rfl ?_
      refine gf_X6_7 (n := 30) C E (Hf.o hZ ha) dX6_takeInto_27 rfl ?_
      refine g_iconst (n := 31) (1 : Int32) C dX6_takeInto_30 (by decide) rfl ?_
      refine g_isub (n := 32) C dX6_takeInto_31 rfl ?_
      refine g_aald (n := 33) C E (Hf.f1 hZ ha) h.1 dX6_takeInto_32 rfl ?_
      replace h := h.2
      refine g_astore_n (n := 34) (i := 2) C dX6_takeInto_33 rfl (Nat.le_of_ble_eq_true rfl) rfl rfl ?_
      refine g_aload_n (n := 35) (i := 2) C dX6_takeInto_34 rfl 0 rfl rfl ?_
      refine g_ifnonnull (tgt := 40) C dX6_takeInto_35 (by decide) ?_
      refine g_aload_n (n := 41) (i := 1) C dX6_takeInto_40 rfl 2 rfl rfl ?_
      refine g_aload_n (n := 42) (i := 2) C dX6_takeInto_41 rfl 0 rfl rfl ?_
      have hs1 := h.1
      replace h := h.2
      refine g_callNv (n := 45) (kd := 2) C E (c_House_copyFrom hZ _ p1 hp1 ((M (a + 1) (((M a 1) - (1 : Int32))).toNatClampNeg).toNatClampNeg) hs1 M _ h) yi_X2_copyFrom wn_528 rfl (Hh.o hZ hp1) (by decide) (Nat.le_of_ble_eq_true rfl) dX6_takeInto_42 rfl rfl (fun M2 h => ?_)
      refine g_aload_n (n := 46) (i := 0) C dX6_takeInto_45 rfl 1 rfl rfl ?_
      refine g_dup (n := 47) C dX6_takeInto_46 rfl rfl ?_
      refine gf_X6_7 (n := 50) C E (Hf.o hZ ha) dX6_takeInto_47 rfl ?_
      refine g_iconst (n := 51) (1 : Int32) C dX6_takeInto_50 (by decide) rfl ?_
      refine g_isub (n := 52) C dX6_takeInto_51 rfl ?_
      refine gp_X6_7 (n := 55) C E (Hf.o hZ ha) dX6_takeInto_52 rfl (fun M3 eM3 => ?_)
      replace h := h M3 eM3
      refine g_iconst (n := 56) (1 : Int32) C dX6_takeInto_55 (by decide) rfl ?_
      exact g_zret C hr hQ dX6_takeInto_56 rfl h
    · replace h := h.2 c
      refine g_iconst (n := 21) (0 : Int32) C dX6_takeInto_20 (by decide) rfl ?_
      exact g_zret C hr hQ dX6_takeInto_21 rfl h
