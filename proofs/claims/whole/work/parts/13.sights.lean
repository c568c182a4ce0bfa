def B_Sightings_add_i (p1 : Int32) (p2 : Int32) (post : Int32 → Mem → Prop)  (M : Mem)  : Prop :=
  ((((M 142 6) < 0) → post (0 : Int32) M) ∧ ((¬ (M 142 6) < 0) → ((((M 142 6) < (7 : Int32)) → vp_in (M 142 6) 7 ∧ (∀ M1 : Mem, M1 = mset M 143 ((M 142 6)).toNatClampNeg p1 → vp_in (M1 142 6) 7 ∧ (∀ M2 : Mem, M2 = mset M1 144 ((M1 142 6)).toNatClampNeg p2 → ∀ M3 : Mem, M3 = mset M2 142 6 ((M2 142 6) + (1 : Int32)) → ∀ M4 : Mem, M4 = mset M3 142 8 (1 : Int32) → post (1 : Int32) M4))) ∧ ((¬ (M 142 6) < (7 : Int32)) → post (0 : Int32) M))))
def P_Sightings_add (M : Mem) (p1 : Int32) (p2 : Int32) (post : Int32 → Mem → Prop) : Prop := B_Sightings_add_i p1 p2 post M
set_option maxHeartbeats 4000000 in
set_option maxRecDepth 100000 in
theorem c_Sightings_add {Z : ZT} (hZ : IsX Z) (l : Launch) (p1 : Int32) (p2 : Int32) (M : Mem) (post : Int32 → Mem → Prop) (h : P_Sightings_add M p1 p2 post) : CtI Z l yX7_add cX7_add 3 (some .boolean) 0 0 [.ref (zb Z + 142), .int p1, .int p2] M post := by
  refine ctI (own := RX7) rfl (by decide) (Nat.le_of_ble_eq_true rfl) (fun X C E hr hQ => ?_)
  unfold P_Sightings_add at h
  unfold B_Sightings_add_i at h
  show GS Z X 0 [(0, .ref (zb Z + 142)), (1, .int p1), (2, .int p2)] [] M
  refine g_aload_n (n := 1) (i := 0) C dX7_add_0 rfl 0 rfl rfl ?_
  refine gf_X7_27 (n := 4) C E (ox_142 hZ) dX7_add_1 rfl ?_
  refine g_if_lt (n := 7) (tgt := 16) C dX7_add_4 (by decide) rfl (fun c => ?_) (fun c => ?_)
  · replace h := h.1 c
    refine g_iconst (n := 17) (0 : Int32) C dX7_add_16 (by decide) rfl ?_
    exact g_zret C hr hQ dX7_add_17 rfl h
  · replace h := h.2 c
    refine g_aload_n (n := 8) (i := 0) C dX7_add_7 rfl 0 rfl rfl ?_
    refine gf_X7_27 (n := 11) C E (ox_142 hZ) dX7_add_8 rfl ?_
    refine g_bipush (n := 13) (7 : Int32) C dX7_add_11 (by decide) rfl ?_
    refine g_icmp_lt (n := 16) (tgt := 18) C dX7_add_13 (by decide) rfl (fun c => ?_) (fun c => ?_)
    · replace h := h.1 c
      refine g_aload_n (n := 19) (i := 0) C dX7_add_18 rfl 0 rfl rfl ?_
      refine gf_X7_9 (n := 22) 143 C E (ox_142 hZ) rfl dX7_add_19 rfl ?_
      refine g_aload_n (n := 23) (i := 0) C dX7_add_22 rfl 0 rfl rfl ?_
      refine gf_X7_27 (n := 26) C E (ox_142 hZ) dX7_add_23 rfl ?_
      refine g_iload_n (n := 27) (i := 1) C dX7_add_26 rfl 1 rfl rfl ?_
      refine g_iast (n := 28) C E (ox_143 hZ) h.1 dX7_add_27 rfl (fun M1 eM1 => ?_)
      replace h := h.2 M1 eM1
      refine g_aload_n (n := 29) (i := 0) C dX7_add_28 rfl 0 rfl rfl ?_
      refine gf_X7_15 (n := 32) 144 C E (ox_142 hZ) rfl dX7_add_29 rfl ?_
      refine g_aload_n (n := 33) (i := 0) C dX7_add_32 rfl 0 rfl rfl ?_
      refine gf_X7_27 (n := 36) C E (ox_142 hZ) dX7_add_33 rfl ?_
      refine g_iload_n (n := 37) (i := 2) C dX7_add_36 rfl 2 rfl rfl ?_
      refine g_iast (n := 38) C E (ox_144 hZ) h.1 dX7_add_37 rfl (fun M2 eM2 => ?_)
      replace h := h.2 M2 eM2
      refine g_aload_n (n := 39) (i := 0) C dX7_add_38 rfl 0 rfl rfl ?_
      refine g_dup (n := 40) C dX7_add_39 rfl rfl ?_
      refine gf_X7_27 (n := 43) C E (ox_142 hZ) dX7_add_40 rfl ?_
      refine g_iconst (n := 44) (1 : Int32) C dX7_add_43 (by decide) rfl ?_
      refine g_iadd (n := 45) C dX7_add_44 rfl ?_
      refine gp_X7_27 (n := 48) C E (ox_142 hZ) dX7_add_45 rfl (fun M3 eM3 => ?_)
      replace h := h M3 eM3
      refine g_aload_n (n := 49) (i := 0) C dX7_add_48 rfl 0 rfl rfl ?_
      refine g_iconst (n := 50) (1 : Int32) C dX7_add_49 (by decide) rfl ?_
      refine gp_X7_34 (n := 53) C E (ox_142 hZ) rfl rfl dX7_add_50 rfl (fun M4 eM4 => ?_)
      replace h := h M4 eM4
      refine g_iconst (n := 54) (1 : Int32) C dX7_add_53 (by decide) rfl ?_
      exact g_zret C hr hQ dX7_add_54 rfl h
    · replace h := h.2 c
      refine g_iconst (n := 17) (0 : Int32) C dX7_add_16 (by decide) rfl ?_
      exact g_zret C hr hQ dX7_add_17 rfl h
def B_Sightings_clear_i  (post : Mem → Prop)  (M : Mem)  : Prop :=
  ∀ M1 : Mem, M1 = mset M 142 6 (0 : Int32) → ∀ M2 : Mem, M2 = mset M1 142 8 (1 : Int32) → post M2
def P_Sightings_clear (M : Mem)  (post : Mem → Prop) : Prop := B_Sightings_clear_i  post M
set_option maxHeartbeats 4000000 in
set_option maxRecDepth 100000 in
theorem c_Sightings_clear {Z : ZT} (hZ : IsX Z) (l : Launch)  (M : Mem) (post : Mem → Prop) (h : P_Sightings_clear M  post) : CtV Z l yX7_clear cX7_clear 1 none 0 0 [.ref (zb Z + 142)] M post := by
  refine ctV (own := RX7) rfl (by decide) (Nat.le_of_ble_eq_true rfl) (fun X C E hr hQ => ?_)
  unfold P_Sightings_clear at h
  unfold B_Sightings_clear_i at h
  show GS Z X 0 [(0, .ref (zb Z + 142))] [] M
  refine g_aload_n (n := 1) (i := 0) C dX7_clear_0 rfl 0 rfl rfl ?_
  refine g_iconst (n := 2) (0 : Int32) C dX7_clear_1 (by decide) rfl ?_
  refine gp_X7_27 (n := 5) C E (ox_142 hZ) dX7_clear_2 rfl (fun M1 eM1 => ?_)
  replace h := h M1 eM1
  refine g_aload_n (n := 6) (i := 0) C dX7_clear_5 rfl 0 rfl rfl ?_
  refine g_iconst (n := 7) (1 : Int32) C dX7_clear_6 (by decide) rfl ?_
  refine gp_X7_34 (n := 10) C E (ox_142 hZ) rfl rfl dX7_clear_7 rfl (fun M2 eM2 => ?_)
  replace h := h M2 eM2
  exact g_vret C hr hQ dX7_clear_10 h
def B_Sightings_firstOrderAt_i (p1 : Int32) (post : Int32 → Mem → Prop)  (M : Mem)  : Prop :=
  ((((M 142 7) ≤ 0) → post (-4 : Int32) M) ∧ ((¬ (M 142 7) ≤ 0) → P_Plan_has M 4 p1 (fun (r2 : Int32) (M1 : Mem) => (((r2 = 0) → post (-4 : Int32) M1) ∧ ((¬ r2 = 0) → vp_in p1 7 ∧ (post (M1 146 (p1).toNatClampNeg) M1))))))
def P_Sightings_firstOrderAt (M : Mem) (p1 : Int32) (post : Int32 → Mem → Prop) : Prop := B_Sightings_firstOrderAt_i p1 post M
set_option maxHeartbeats 4000000 in
set_option maxRecDepth 100000 in
theorem c_Sightings_firstOrderAt {Z : ZT} (hZ : IsX Z) (l : Launch) (p1 : Int32) (M : Mem) (post : Int32 → Mem → Prop) (h : P_Sightings_firstOrderAt M p1 post) : CtI Z l yX7_firstOrderAt cX7_firstOrderAt 2 (some .int) 1 21 [.ref (zb Z + 142), .int p1] M post := by
  refine ctI (own := RX7) rfl (by decide) (Nat.le_of_ble_eq_true rfl) (fun X C E hr hQ => ?_)
  unfold P_Sightings_firstOrderAt at h
  unfold B_Sightings_firstOrderAt_i at h
  show GS Z X 0 [(0, .ref (zb Z + 142)), (1, .int p1)] [] M
  refine g_aload_n (n := 1) (i := 0) C dX7_firstOrderAt_0 rfl 0 rfl rfl ?_
  refine gf_X7_31 (n := 4) C E (ox_142 hZ) dX7_firstOrderAt_1 rfl ?_
  refine g_if_le (n := 7) (tgt := 27) C dX7_firstOrderAt_4 (by decide) rfl (fun c => ?_) (fun c => ?_)
  · replace h := h.1 c
    refine g_bipush (n := 29) (-4 : Int32) C dX7_firstOrderAt_27 (by decide) rfl ?_
    exact g_iret C hr hQ dX7_firstOrderAt_29 h
  · replace h := h.2 c
    refine g_aload_n (n := 8) (i := 0) C dX7_firstOrderAt_7 rfl 0 rfl rfl ?_
    refine gf_X7_38 (n := 11) C E (ox_142 hZ) dX7_firstOrderAt_8 rfl ?_
    refine g_iload_n (n := 12) (i := 1) C dX7_firstOrderAt_11 rfl 1 rfl rfl ?_
    refine g_callNi (n := 15) (kd := 4) C E (c_Plan_has hZ _ 4 (by unfold Hp; decide) p1 M _ h) yi_X4_has wn_708 rfl (ox_4 hZ) (by decide) (Nat.le_of_ble_eq_true rfl) dX7_firstOrderAt_12 rfl rfl (fun r2 M1 h => ?_)
    refine g_if_eq (n := 18) (tgt := 27) C dX7_firstOrderAt_15 (by decide) rfl (fun c => ?_) (fun c => ?_)
    · replace h := h.1 c
      refine g_bipush (n := 29) (-4 : Int32) C dX7_firstOrderAt_27 (by decide) rfl ?_
      exact g_iret C hr hQ dX7_firstOrderAt_29 h
    · replace h := h.2 c
      refine g_aload_n (n := 19) (i := 0) C dX7_firstOrderAt_18 rfl 0 rfl rfl ?_
      refine gf_X7_21 (n := 22) 146 C E (ox_142 hZ) rfl dX7_firstOrderAt_19 rfl ?_
      refine g_iload_n (n := 23) (i := 1) C dX7_firstOrderAt_22 rfl 1 rfl rfl ?_
      refine g_iald (n := 24) C E (ox_146 hZ) h.1 dX7_firstOrderAt_23 rfl ?_
      replace h := h.2
      refine g_goto (tgt := 29) C dX7_firstOrderAt_24 (by decide) ?_
      exact g_iret C hr hQ dX7_firstOrderAt_29 h
def B_Sightings_payOut_i (p1 : Int32) (p2 : Int32) (p3 : Int32) (post : Mem → Prop)  (M : Mem)  : Prop :=
  P_Plan_has M 4 p1 (fun (r2 : Int32) (M1 : Mem) => (((¬ r2 = 0) → vp_in p1 7 ∧ (vp_in p1 7 ∧ (∀ M3 : Mem, M3 = mset M1 147 (p1).toNatClampNeg ((M1 147 (p1).toNatClampNeg) + p3) → P_Plan_has M3 4 p2 (fun (r5 : Int32) (M4 : Mem) => (((r5 = 0) → post M4) ∧ ((¬ r5 = 0) → vp_in p1 7 ∧ (∀ z6 : Int32, z6 = ((M4 147 (p1).toNatClampNeg) / (2 : Int32)) → vp_in p1 7 ∧ (vp_in p1 7 ∧ (∀ M7 : Mem, M7 = mset M4 147 (p1).toNatClampNeg ((M4 147 (p1).toNatClampNeg) - z6) → vp_in p2 7 ∧ (vp_in p2 7 ∧ (∀ M8 : Mem, M8 = mset M7 147 (p2).toNatClampNeg ((M7 147 (p2).toNatClampNeg) + z6) → post M8))))))))))) ∧ ((r2 = 0) → post M1)))
def P_Sightings_payOut (M : Mem) (p1 : Int32) (p2 : Int32) (p3 : Int32) (post : Mem → Prop) : Prop := B_Sightings_payOut_i p1 p2 p3 post M
set_option maxHeartbeats 4000000 in
set_option maxRecDepth 100000 in
theorem c_Sightings_payOut {Z : ZT} (hZ : IsX Z) (l : Launch) (p1 : Int32) (p2 : Int32) (p3 : Int32) (M : Mem) (post : Mem → Prop) (h : P_Sightings_payOut M p1 p2 p3 post) : CtV Z l yX7_payOut cX7_payOut 5 none 1 21 [.ref (zb Z + 142), .int p1, .int p2, .int p3] M post := by
  refine ctV (own := RX7) rfl (by decide) (Nat.le_of_ble_eq_true rfl) (fun X C E hr hQ => ?_)
  unfold P_Sightings_payOut at h
  unfold B_Sightings_payOut_i at h
  show GS Z X 0 [(0, .ref (zb Z + 142)), (1, .int p1), (2, .int p2), (3, .int p3)] [] M
  refine g_aload_n (n := 1) (i := 0) C dX7_payOut_0 rfl 0 rfl rfl ?_
  refine gf_X7_38 (n := 4) C E (ox_142 hZ) dX7_payOut_1 rfl ?_
  refine g_iload_n (n := 5) (i := 1) C dX7_payOut_4 rfl 1 rfl rfl ?_
  refine g_callNi (n := 8) (kd := 4) C E (c_Plan_has hZ _ 4 (by unfold Hp; decide) p1 M _ h) yi_X4_has wn_708 rfl (ox_4 hZ) (by decide) (Nat.le_of_ble_eq_true rfl) dX7_payOut_5 rfl rfl (fun r2 M1 h => ?_)
  refine g_if_ne (n := 11) (tgt := 12) C dX7_payOut_8 (by decide) rfl (fun c => ?_) (fun c => ?_)
  · replace h := h.1 c
    refine g_aload_n (n := 13) (i := 0) C dX7_payOut_12 rfl 0 rfl rfl ?_
    refine gf_X7_24 (n := 16) 147 C E (ox_142 hZ) rfl dX7_payOut_13 rfl ?_
    refine g_iload_n (n := 17) (i := 1) C dX7_payOut_16 rfl 1 rfl rfl ?_
    refine g_dup2 (n := 18) C dX7_payOut_17 rfl rfl rfl ?_
    refine g_iald (n := 19) C E (ox_147 hZ) h.1 dX7_payOut_18 rfl ?_
    replace h := h.2
    refine g_iload_n (n := 20) (i := 3) C dX7_payOut_19 rfl 3 rfl rfl ?_
    refine g_iadd (n := 21) C dX7_payOut_20 rfl ?_
    refine g_iast (n := 22) C E (ox_147 hZ) h.1 dX7_payOut_21 rfl (fun M3 eM3 => ?_)
    replace h := h.2 M3 eM3
    refine g_aload_n (n := 23) (i := 0) C dX7_payOut_22 rfl 0 rfl rfl ?_
    refine gf_X7_38 (n := 26) C E (ox_142 hZ) dX7_payOut_23 rfl ?_
    refine g_iload_n (n := 27) (i := 2) C dX7_payOut_26 rfl 2 rfl rfl ?_
    refine g_callNi (n := 30) (kd := 4) C E (c_Plan_has hZ _ 4 (by unfold Hp; decide) p2 M3 _ h) yi_X4_has wn_708 rfl (ox_4 hZ) (by decide) (Nat.le_of_ble_eq_true rfl) dX7_payOut_27 rfl rfl (fun r5 M4 h => ?_)
    refine g_if_eq (n := 33) (tgt := 65) C dX7_payOut_30 (by decide) rfl (fun c => ?_) (fun c => ?_)
    · replace h := h.1 c
      exact g_vret C hr hQ dX7_payOut_65 h
    · replace h := h.2 c
      refine g_aload_n (n := 34) (i := 0) C dX7_payOut_33 rfl 0 rfl rfl ?_
      refine gf_X7_24 (n := 37) 147 C E (ox_142 hZ) rfl dX7_payOut_34 rfl ?_
      refine g_iload_n (n := 38) (i := 1) C dX7_payOut_37 rfl 1 rfl rfl ?_
      refine g_iald (n := 39) C E (ox_147 hZ) h.1 dX7_payOut_38 rfl ?_
      replace h := h.2
      refine g_iconst (n := 40) (2 : Int32) C dX7_payOut_39 (by decide) rfl ?_
      refine g_idiv (n := 41) C dX7_payOut_40 (by decide) rfl ?_
      refine g_istore (n := 43) (i := 4) C dX7_payOut_41 (Nat.le_of_ble_eq_true rfl) rfl rfl (fun z6 ez6 => ?_)
      replace h := h z6 ez6
      refine g_aload_n (n := 44) (i := 0) C dX7_payOut_43 rfl 1 rfl rfl ?_
      refine gf_X7_24 (n := 47) 147 C E (ox_142 hZ) rfl dX7_payOut_44 rfl ?_
      refine g_iload_n (n := 48) (i := 1) C dX7_payOut_47 rfl 2 rfl rfl ?_
      refine g_dup2 (n := 49) C dX7_payOut_48 rfl rfl rfl ?_
      refine g_iald (n := 50) C E (ox_147 hZ) h.1 dX7_payOut_49 rfl ?_
      replace h := h.2
      refine g_iload (n := 52) C dX7_payOut_50 0 rfl rfl ?_
      refine g_isub (n := 53) C dX7_payOut_52 rfl ?_
      refine g_iast (n := 54) C E (ox_147 hZ) h.1 dX7_payOut_53 rfl (fun M7 eM7 => ?_)
      replace h := h.2 M7 eM7
      refine g_aload_n (n := 55) (i := 0) C dX7_payOut_54 rfl 1 rfl rfl ?_
      refine gf_X7_24 (n := 58) 147 C E (ox_142 hZ) rfl dX7_payOut_55 rfl ?_
      refine g_iload_n (n := 59) (i := 2) C dX7_payOut_58 rfl 3 rfl rfl ?_
      refine g_dup2 (n := 60) C dX7_payOut_59 rfl rfl rfl ?_
      refine g_iald (n := 61) C E (ox_147 hZ) h.1 dX7_payOut_60 rfl ?_
      replace h := h.2
      refine g_iload (n := 63) C dX7_payOut_61 0 rfl rfl ?_
      refine g_iadd (n := 64) C dX7_payOut_63 rfl ?_
      refine g_iast (n := 65) C E (ox_147 hZ) h.1 dX7_payOut_64 rfl (fun M8 eM8 => ?_)
      replace h := h.2 M8 eM8
      exact g_vret C hr hQ dX7_payOut_65 h
  · replace h := h.2 c
    exact g_vret C hr hQ dX7_payOut_11 h
def B_Sightings_comeInOrder_i  (post : Mem → Prop) (R2 : Mem → Int32 → Prop) (R37 : Mem → Int32 → Int32 → Int32 → Int32 → Prop) (M : Mem)  : Prop :=
  ∀ z1 : Int32, z1 = (0 : Int32) → (R2 M z1)
def B_Sightings_comeInOrder_2  (post : Mem → Prop) (R2 : Mem → Int32 → Prop) (R37 : Mem → Int32 → Int32 → Int32 → Int32 → Prop) (M : Mem) (x2_1 : Int32) : Prop :=
  ((((M 4 6) ≤ x2_1) → ∀ z2 : Int32, z2 = (-4 : Int32) → ∀ z3 : Int32, z3 = (-4 : Int32) → ∀ z4 : Int32, z4 = (0 : Int32) → ∀ z5 : Int32, z5 = (0 : Int32) → (R37 M z2 z3 z4 z5)) ∧ ((¬ (M 4 6) ≤ x2_1) → vp_in x2_1 7 ∧ (∀ M6 : Mem, M6 = mset M 147 (x2_1).toNatClampNeg (0 : Int32) → ∀ z7 : Int32, z7 = x2_1 + (1 : Int32) → (R2 M6 z7))))
def B_Sightings_comeInOrder_37  (post : Mem → Prop) (R2 : Mem → Int32 → Prop) (R37 : Mem → Int32 → Int32 → Int32 → Int32 → Prop) (M : Mem) (x37_1 : Int32) (x37_2 : Int32) (x37_3 : Int32) (x37_4 : Int32) : Prop :=
  ((((M 4 6) ≤ x37_4) → post M) ∧ ((¬ (M 4 6) ≤ x37_4) → vp_in x37_4 7 ∧ (∀ z8 : Int32, z8 = (M 145 (x37_4).toNatClampNeg) → P_Plan_has M 4 z8 (fun (r10 : Int32) (M9 : Mem) => (((r10 = 0) → ∀ z11 : Int32, z11 = x37_4 + (1 : Int32) → (R37 M9 x37_1 x37_2 x37_3 z11)) ∧ ((¬ r10 = 0) → vp_in z8 7 ∧ (∀ z12 : Int32, z12 = (x37_3 + (M9 8 (z8).toNatClampNeg)) → vp_in z8 7 ∧ (((((M9 5 (z8).toNatClampNeg) = (2 : Int32)) → ∀ z13 : Int32, z13 = x37_4 + (1 : Int32) → (R37 M9 x37_1 x37_2 z12 z13)) ∧ ((¬ (M9 5 (z8).toNatClampNeg) = (2 : Int32)) → P_Sightings_payOut M9 x37_1 x37_2 z12 (fun (M14 : Mem) => ∀ z15 : Int32, z15 = x37_1 → ∀ z16 : Int32, z16 = z8 → ∀ z17 : Int32, z17 = (0 : Int32) → ∀ z18 : Int32, z18 = x37_4 + (1 : Int32) → (R37 M14 z16 z15 z17 z18))))))))))))
def P_Sightings_comeInOrder (M : Mem)  (post : Mem → Prop) : Prop :=
  ∀ (R2 : Mem → Int32 → Prop) (R37 : Mem → Int32 → Int32 → Int32 → Int32 → Prop), (∀ (M : Mem) (x2_1 : Int32), B_Sightings_comeInOrder_2  post R2 R37 M x2_1 → R2 M x2_1) → (∀ (M : Mem) (x37_1 : Int32) (x37_2 : Int32) (x37_3 : Int32) (x37_4 : Int32), B_Sightings_comeInOrder_37  post R2 R37 M x37_1 x37_2 x37_3 x37_4 → R37 M x37_1 x37_2 x37_3 x37_4) → B_Sightings_comeInOrder_i  post R2 R37 M
set_option maxHeartbeats 4000000 in
set_option maxRecDepth 100000 in
theorem c_Sightings_comeInOrder {Z : ZT} (hZ : IsX Z) (l : Launch)  (M : Mem) (post : Mem → Prop) (h : P_Sightings_comeInOrder M  post) : CtV Z l yX7_comeInOrder cX7_comeInOrder 6 none 2 45 [.ref (zb Z + 142)] M post := by
  refine ctV (own := RX7) rfl (by decide) (Nat.le_of_ble_eq_true rfl) (fun X C E hr hQ => ?_)
  have s2 : ∀ (M : Mem) (x2_1 : Int32), B_Sightings_comeInOrder_2  post (fun (M : Mem) (x2_1 : Int32) => GS Z X 2 [(0, .ref (zb Z + 142)), (1, .int x2_1)] [] M) (fun (M : Mem) (x37_1 : Int32) (x37_2 : Int32) (x37_3 : Int32) (x37_4 : Int32) => GS Z X 37 [(0, .ref (zb Z + 142)), (1, .int x37_1), (2, .int x37_2), (3, .int x37_3), (4, .int x37_4)] [] M) M x2_1 → GS Z X 2 [(0, .ref (zb Z + 142)), (1, .int x2_1)] [] M := by
    intro M x2_1 h
    unfold B_Sightings_comeInOrder_2 at h
    refine g_iload_n (n := 3) (i := 1) C dX7_comeInOrder_2 rfl 1 rfl rfl ?_
    refine g_aload_n (n := 4) (i := 0) C dX7_comeInOrder_3 rfl 0 rfl rfl ?_
    refine gf_X7_38 (n := 7) C E (ox_142 hZ) dX7_comeInOrder_4 rfl ?_
    refine gf_X7_48 (n := 10) C E (ox_4 hZ) dX7_comeInOrder_7 rfl ?_
    refine g_icmp_ge (n := 13) (tgt := 26) C dX7_comeInOrder_10 (by decide) rfl (fun c => ?_) (fun c => ?_)
    · replace h := h.1 c
      refine g_bipush (n := 28) (-4 : Int32) C dX7_comeInOrder_26 (by decide) rfl ?_
      refine g_istore_n (n := 29) (i := 1) C dX7_comeInOrder_28 rfl (Nat.le_of_ble_eq_true rfl) rfl rfl (fun z2 ez2 => ?_)
      replace h := h z2 ez2
      refine g_bipush (n := 31) (-4 : Int32) C dX7_comeInOrder_29 (by decide) rfl ?_
      refine g_istore_n (n := 32) (i := 2) C dX7_comeInOrder_31 rfl (Nat.le_of_ble_eq_true rfl) rfl rfl (fun z3 ez3 => ?_)
      replace h := h z3 ez3
      refine g_iconst (n := 33) (0 : Int32) C dX7_comeInOrder_32 (by decide) rfl ?_
      refine g_istore_n (n := 34) (i := 3) C dX7_comeInOrder_33 rfl (Nat.le_of_ble_eq_true rfl) rfl rfl (fun z4 ez4 => ?_)
      replace h := h z4 ez4
      refine g_iconst (n := 35) (0 : Int32) C dX7_comeInOrder_34 (by decide) rfl ?_
      refine g_istore (n := 37) (i := 4) C dX7_comeInOrder_35 (Nat.le_of_ble_eq_true rfl) rfl rfl (fun z5 ez5 => ?_)
      replace h := h z5 ez5
      exact g_sub [4, 3, 2, 1, 0] rfl h
    · replace h := h.2 c
      refine g_aload_n (n := 14) (i := 0) C dX7_comeInOrder_13 rfl 0 rfl rfl ?_
      refine gf_X7_24 (n := 17) 147 C E (ox_142 hZ) rfl dX7_comeInOrder_14 rfl ?_
      refine g_iload_n (n := 18) (i := 1) C dX7_comeInOrder_17 rfl 1 rfl rfl ?_
      refine g_iconst (n := 19) (0 : Int32) C dX7_comeInOrder_18 (by decide) rfl ?_
      refine g_iast (n := 20) C E (ox_147 hZ) h.1 dX7_comeInOrder_19 rfl (fun M6 eM6 => ?_)
      replace h := h.2 M6 eM6
      refine g_iinc (n := 23) (v := (1 : Int32)) C dX7_comeInOrder_20 1 rfl (by decide) (Nat.le_of_ble_eq_true rfl) rfl rfl (fun z7 ez7 => ?_)
      replace h := h z7 ez7
      refine g_goto (tgt := 2) C dX7_comeInOrder_23 (by decide) ?_
      exact g_sub [1, 0] rfl h
  have s37 : ∀ (M : Mem) (x37_1 : Int32) (x37_2 : Int32) (x37_3 : Int32) (x37_4 : Int32), B_Sightings_comeInOrder_37  post (fun (M : Mem) (x2_1 : Int32) => GS Z X 2 [(0, .ref (zb Z + 142)), (1, .int x2_1)] [] M) (fun (M : Mem) (x37_1 : Int32) (x37_2 : Int32) (x37_3 : Int32) (x37_4 : Int32) => GS Z X 37 [(0, .ref (zb Z + 142)), (1, .int x37_1), (2, .int x37_2), (3, .int x37_3), (4, .int x37_4)] [] M) M x37_1 x37_2 x37_3 x37_4 → GS Z X 37 [(0, .ref (zb Z + 142)), (1, .int x37_1), (2, .int x37_2), (3, .int x37_3), (4, .int x37_4)] [] M := by
    intro M x37_1 x37_2 x37_3 x37_4 h
    unfold B_Sightings_comeInOrder_37 at h
    refine g_iload (n := 39) C dX7_comeInOrder_37 4 rfl rfl ?_
    refine g_aload_n (n := 40) (i := 0) C dX7_comeInOrder_39 rfl 0 rfl rfl ?_
    refine gf_X7_38 (n := 43) C E (ox_142 hZ) dX7_comeInOrder_40 rfl ?_
    refine gf_X7_48 (n := 46) C E (ox_4 hZ) dX7_comeInOrder_43 rfl ?_
    refine g_icmp_ge (n := 49) (tgt := 117) C dX7_comeInOrder_46 (by decide) rfl (fun c => ?_) (fun c => ?_)
    · replace h := h.1 c
      exact g_vret C hr hQ dX7_comeInOrder_117 h
    · replace h := h.2 c
      refine g_aload_n (n := 50) (i := 0) C dX7_comeInOrder_49 rfl 0 rfl rfl ?_
      refine gf_X7_18 (n := 53) 145 C E (ox_142 hZ) rfl dX7_comeInOrder_50 rfl ?_
      refine g_iload (n := 55) C dX7_comeInOrder_53 4 rfl rfl ?_
      refine g_iald (n := 56) C E (ox_145 hZ) h.1 dX7_comeInOrder_55 rfl ?_
      replace h := h.2
      refine g_istore (n := 58) (i := 5) C dX7_comeInOrder_56 (Nat.le_of_ble_eq_true rfl) rfl rfl (fun z8 ez8 => ?_)
      replace h := h z8 ez8
      refine g_aload_n (n := 59) (i := 0) C dX7_comeInOrder_58 rfl 1 rfl rfl ?_
      refine gf_X7_38 (n := 62) C E (ox_142 hZ) dX7_comeInOrder_59 rfl ?_
      refine g_iload (n := 64) C dX7_comeInOrder_62 0 rfl rfl ?_
      refine g_callNi (n := 67) (kd := 4) C E (c_Plan_has hZ _ 4 (by unfold Hp; decide) z8 M _ h) yi_X4_has wn_708 rfl (ox_4 hZ) (by decide) (Nat.le_of_ble_eq_true rfl) dX7_comeInOrder_64 rfl rfl (fun r10 M9 h => ?_)
      refine g_if_eq (n := 70) (tgt := 111) C dX7_comeInOrder_67 (by decide) rfl (fun c => ?_) (fun c => ?_)
      · replace h := h.1 c
        refine g_iinc (n := 114) (v := (1 : Int32)) C dX7_comeInOrder_111 5 rfl (by decide) (Nat.le_of_ble_eq_true rfl) rfl rfl (fun z11 ez11 => ?_)
        replace h := h z11 ez11
        refine g_goto (tgt := 37) C dX7_comeInOrder_114 (by decide) ?_
        exact g_sub [2, 3, 4, 5, 0] rfl h
      · replace h := h.2 c
        refine g_iload_n (n := 71) (i := 3) C dX7_comeInOrder_70 rfl 4 rfl rfl ?_
        refine g_aload_n (n := 72) (i := 0) C dX7_comeInOrder_71 rfl 1 rfl rfl ?_
        refine gf_X7_38 (n := 75) C E (ox_142 hZ) dX7_comeInOrder_72 rfl ?_
        refine gf_X7_63 (n := 78) 8 C E (ox_4 hZ) rfl dX7_comeInOrder_75 rfl ?_
        refine g_iload (n := 80) C dX7_comeInOrder_78 0 rfl rfl ?_
        refine g_iald (n := 81) C E (ox_8 hZ) h.1 dX7_comeInOrder_80 rfl ?_
        replace h := h.2
        refine g_iadd (n := 82) C dX7_comeInOrder_81 rfl ?_
        refine g_istore_n (n := 83) (i := 3) C dX7_comeInOrder_82 rfl (Nat.le_of_ble_eq_true rfl) rfl rfl (fun z12 ez12 => ?_)
        replace h := h z12 ez12
        refine g_aload_n (n := 84) (i := 0) C dX7_comeInOrder_83 rfl 2 rfl rfl ?_
        refine gf_X7_38 (n := 87) C E (ox_142 hZ) dX7_comeInOrder_84 rfl ?_
        refine gf_X7_66 (n := 90) 5 C E (ox_4 hZ) rfl dX7_comeInOrder_87 rfl ?_
        refine g_iload (n := 92) C dX7_comeInOrder_90 1 rfl rfl ?_
        refine g_iald (n := 93) C E (ox_5 hZ) h.1 dX7_comeInOrder_92 rfl ?_
        replace h := h.2
        refine g_iconst (n := 94) (2 : Int32) C dX7_comeInOrder_93 (by decide) rfl ?_
        refine g_icmp_eq (n := 97) (tgt := 111) C dX7_comeInOrder_94 (by decide) rfl (fun c => ?_) (fun c => ?_)
        · replace h := h.1 c
          refine g_iinc (n := 114) (v := (1 : Int32)) C dX7_comeInOrder_111 5 rfl (by decide) (Nat.le_of_ble_eq_true rfl) rfl rfl (fun z13 ez13 => ?_)
          replace h := h z13 ez13
          refine g_goto (tgt := 37) C dX7_comeInOrder_114 (by decide) ?_
          exact g_sub [3, 4, 5, 1, 0] rfl h
        · replace h := h.2 c
          refine g_aload_n (n := 98) (i := 0) C dX7_comeInOrder_97 rfl 2 rfl rfl ?_
          refine g_iload_n (n := 99) (i := 1) C dX7_comeInOrder_98 rfl 3 rfl rfl ?_
          refine g_iload_n (n := 100) (i := 2) C dX7_comeInOrder_99 rfl 4 rfl rfl ?_
          refine g_iload_n (n := 101) (i := 3) C dX7_comeInOrder_100 rfl 0 rfl rfl ?_
          refine g_callVv (n := 104) (kd := 7) C E (c_Sightings_payOut hZ _ x37_1 x37_2 z12 M9 _ h) yi_X7_payOut wd_709 rfl (ox_142 hZ) (by decide) (Nat.le_of_ble_eq_true rfl) dX7_comeInOrder_101 rfl rfl (fun M14 h => ?_)
          refine g_iload_n (n := 105) (i := 1) C dX7_comeInOrder_104 rfl 3 rfl rfl ?_
          refine g_istore_n (n := 106) (i := 2) C dX7_comeInOrder_105 rfl (Nat.le_of_ble_eq_true rfl) rfl rfl (fun z15 ez15 => ?_)
          replace h := h z15 ez15
          refine g_iload (n := 108) C dX7_comeInOrder_106 2 rfl rfl ?_
          refine g_istore_n (n := 109) (i := 1) C dX7_comeInOrder_108 rfl (Nat.le_of_ble_eq_true rfl) rfl rfl (fun z16 ez16 => ?_)
          replace h := h z16 ez16
          refine g_iconst (n := 110) (0 : Int32) C dX7_comeInOrder_109 (by decide) rfl ?_
          refine g_istore_n (n := 111) (i := 3) C dX7_comeInOrder_110 rfl (Nat.le_of_ble_eq_true rfl) rfl rfl (fun z17 ez17 => ?_)
          replace h := h z17 ez17
          refine g_iinc (n := 114) (v := (1 : Int32)) C dX7_comeInOrder_111 5 rfl (by decide) (Nat.le_of_ble_eq_true rfl) rfl rfl (fun z18 ez18 => ?_)
          replace h := h z18 ez18
          refine g_goto (tgt := 37) C dX7_comeInOrder_114 (by decide) ?_
          exact g_sub [5, 2, 3, 1, 0] rfl h
  replace h := h (fun (M : Mem) (x2_1 : Int32) => GS Z X 2 [(0, .ref (zb Z + 142)), (1, .int x2_1)] [] M) (fun (M : Mem) (x37_1 : Int32) (x37_2 : Int32) (x37_3 : Int32) (x37_4 : Int32) => GS Z X 37 [(0, .ref (zb Z + 142)), (1, .int x37_1), (2, .int x37_2), (3, .int x37_3), (4, .int x37_4)] [] M) s2 s37
  unfold B_Sightings_comeInOrder_i at h
  show GS Z X 0 [(0, .ref (zb Z + 142))] [] M
  refine g_iconst (n := 1) (0 : Int32) C dX7_comeInOrder_0 (by decide) rfl ?_
  refine g_istore_n (n := 2) (i := 1) C dX7_comeInOrder_1 rfl (Nat.le_of_ble_eq_true rfl) rfl rfl (fun z1 ez1 => ?_)
  replace h := h z1 ez1
  exact g_sub [1, 0] rfl h
def B_Sightings_isAsSeen_i  (post : Int32 → Mem → Prop) (R2 : Mem → Int32 → Prop) (M : Mem)  : Prop :=
  ∀ z1 : Int32, z1 = (0 : Int32) → (R2 M z1)
def B_Sightings_isAsSeen_2  (post : Int32 → Mem → Prop) (R2 : Mem → Int32 → Prop) (M : Mem) (x2_1 : Int32) : Prop :=
  ((((M 142 6) ≤ x2_1) → post (1 : Int32) M) ∧ ((¬ (M 142 6) ≤ x2_1) → vp_in x2_1 7 ∧ (P_Plan_has M 4 (M 143 (x2_1).toNatClampNeg) (fun (r3 : Int32) (M2 : Mem) => (((r3 = 0) → ∀ z4 : Int32, z4 = x2_1 + (1 : Int32) → (R2 M2 z4)) ∧ ((¬ r3 = 0) → vp_in x2_1 7 ∧ (vp_in (M2 143 (x2_1).toNatClampNeg) 7 ∧ (vp_in x2_1 7 ∧ (((((M2 147 ((M2 143 (x2_1).toNatClampNeg)).toNatClampNeg) = (M2 144 (x2_1).toNatClampNeg)) → ∀ z5 : Int32, z5 = x2_1 + (1 : Int32) → (R2 M2 z5)) ∧ ((¬ (M2 147 ((M2 143 (x2_1).toNatClampNeg)).toNatClampNeg) = (M2 144 (x2_1).toNatClampNeg)) → post (0 : Int32) M2)))))))))))
def P_Sightings_isAsSeen (M : Mem)  (post : Int32 → Mem → Prop) : Prop :=
  ∀ (R2 : Mem → Int32 → Prop), (∀ (M : Mem) (x2_1 : Int32), B_Sightings_isAsSeen_2  post R2 M x2_1 → R2 M x2_1) → B_Sightings_isAsSeen_i  post R2 M
set_option maxHeartbeats 4000000 in
set_option maxRecDepth 100000 in
theorem c_Sightings_isAsSeen {Z : ZT} (hZ : IsX Z) (l : Launch)  (M : Mem) (post : Int32 → Mem → Prop) (h : P_Sightings_isAsSeen M  post) : CtI Z l yX7_isAsSeen cX7_isAsSeen 2 (some .boolean) 1 21 [.ref (zb Z + 142)] M post := by
  refine ctI (own := RX7) rfl (by decide) (Nat.le_of_ble_eq_true rfl) (fun X C E hr hQ => ?_)
  have s2 : ∀ (M : Mem) (x2_1 : Int32), B_Sightings_isAsSeen_2  post (fun (M : Mem) (x2_1 : Int32) => GS Z X 2 [(0, .ref (zb Z + 142)), (1, .int x2_1)] [] M) M x2_1 → GS Z X 2 [(0, .ref (zb Z + 142)), (1, .int x2_1)] [] M := by
    intro M x2_1 h
    unfold B_Sightings_isAsSeen_2 at h
    refine g_iload_n (n := 3) (i := 1) C dX7_isAsSeen_2 rfl 1 rfl rfl ?_
    refine g_aload_n (n := 4) (i := 0) C dX7_isAsSeen_3 rfl 0 rfl rfl ?_
    refine gf_X7_27 (n := 7) C E (ox_142 hZ) dX7_isAsSeen_4 rfl ?_
    refine g_icmp_ge (n := 10) (tgt := 54) C dX7_isAsSeen_7 (by decide) rfl (fun c => ?_) (fun c => ?_)
    · replace h := h.1 c
      refine g_iconst (n := 55) (1 : Int32) C dX7_isAsSeen_54 (by decide) rfl ?_
      exact g_zret C hr hQ dX7_isAsSeen_55 rfl h
    · replace h := h.2 c
      refine g_aload_n (n := 11) (i := 0) C dX7_isAsSeen_10 rfl 0 rfl rfl ?_
      refine gf_X7_38 (n := 14) C E (ox_142 hZ) dX7_isAsSeen_11 rfl ?_
      refine g_aload_n (n := 15) (i := 0) C dX7_isAsSeen_14 rfl 0 rfl rfl ?_
      refine gf_X7_9 (n := 18) 143 C E (ox_142 hZ) rfl dX7_isAsSeen_15 rfl ?_
      refine g_iload_n (n := 19) (i := 1) C dX7_isAsSeen_18 rfl 1 rfl rfl ?_
      refine g_iald (n := 20) C E (ox_143 hZ) h.1 dX7_isAsSeen_19 rfl ?_
      replace h := h.2
      refine g_callNi (n := 23) (kd := 4) C E (c_Plan_has hZ _ 4 (by unfold Hp; decide) (M 143 (x2_1).toNatClampNeg) M _ h) yi_X4_has wn_708 rfl (ox_4 hZ) (by decide) (Nat.le_of_ble_eq_true rfl) dX7_isAsSeen_20 rfl rfl (fun r3 M2 h => ?_)
      refine g_if_eq (n := 26) (tgt := 48) C dX7_isAsSeen_23 (by decide) rfl (fun c => ?_) (fun c => ?_)
      · replace h := h.1 c
        refine g_iinc (n := 51) (v := (1 : Int32)) C dX7_isAsSeen_48 1 rfl (by decide) (Nat.le_of_ble_eq_true rfl) rfl rfl (fun z4 ez4 => ?_)
        replace h := h z4 ez4
        refine g_goto (tgt := 2) C dX7_isAsSeen_51 (by decide) ?_
        exact g_sub [1, 0] rfl h
      · replace h := h.2 c
        refine g_aload_n (n := 27) (i := 0) C dX7_isAsSeen_26 rfl 0 rfl rfl ?_
        refine gf_X7_24 (n := 30) 147 C E (ox_142 hZ) rfl dX7_isAsSeen_27 rfl ?_
        refine g_aload_n (n := 31) (i := 0) C dX7_isAsSeen_30 rfl 0 rfl rfl ?_
        refine gf_X7_9 (n := 34) 143 C E (ox_142 hZ) rfl dX7_isAsSeen_31 rfl ?_
        refine g_iload_n (n := 35) (i := 1) C dX7_isAsSeen_34 rfl 1 rfl rfl ?_
        refine g_iald (n := 36) C E (ox_143 hZ) h.1 dX7_isAsSeen_35 rfl ?_
        replace h := h.2
        refine g_iald (n := 37) C E (ox_147 hZ) h.1 dX7_isAsSeen_36 rfl ?_
        replace h := h.2
        refine g_aload_n (n := 38) (i := 0) C dX7_isAsSeen_37 rfl 0 rfl rfl ?_
        refine gf_X7_15 (n := 41) 144 C E (ox_142 hZ) rfl dX7_isAsSeen_38 rfl ?_
        refine g_iload_n (n := 42) (i := 1) C dX7_isAsSeen_41 rfl 1 rfl rfl ?_
        refine g_iald (n := 43) C E (ox_144 hZ) h.1 dX7_isAsSeen_42 rfl ?_
        replace h := h.2
        refine g_icmp_eq (n := 46) (tgt := 48) C dX7_isAsSeen_43 (by decide) rfl (fun c => ?_) (fun c => ?_)
        · replace h := h.1 c
          refine g_iinc (n := 51) (v := (1 : Int32)) C dX7_isAsSeen_48 1 rfl (by decide) (Nat.le_of_ble_eq_true rfl) rfl rfl (fun z5 ez5 => ?_)
          replace h := h z5 ez5
          refine g_goto (tgt := 2) C dX7_isAsSeen_51 (by decide) ?_
          exact g_sub [1, 0] rfl h
        · replace h := h.2 c
          refine g_iconst (n := 47) (0 : Int32) C dX7_isAsSeen_46 (by decide) rfl ?_
          exact g_zret C hr hQ dX7_isAsSeen_47 rfl h
  replace h := h (fun (M : Mem) (x2_1 : Int32) => GS Z X 2 [(0, .ref (zb Z + 142)), (1, .int x2_1)] [] M) s2
  unfold B_Sightings_isAsSeen_i at h
  show GS Z X 0 [(0, .ref (zb Z + 142))] [] M
  refine g_iconst (n := 1) (0 : Int32) C dX7_isAsSeen_0 (by decide) rfl ?_
  refine g_istore_n (n := 2) (i := 1) C dX7_isAsSeen_1 rfl (Nat.le_of_ble_eq_true rfl) rfl rfl (fun z1 ez1 => ?_)
  replace h := h z1 ez1
  exact g_sub [1, 0] rfl h
def B_Sightings_noteOrder_i  (post : Mem → Prop) (R9 : Mem → Int32 → Prop) (M : Mem)  : Prop :=
  (((¬ (M 142 7) = 0) → ∀ M1 : Mem, M1 = mset M 142 7 ((M 142 7) + (1 : Int32)) → post M1) ∧ (((M 142 7) = 0) → ∀ z2 : Int32, z2 = (0 : Int32) → (R9 M z2)))
def B_Sightings_noteOrder_9  (post : Mem → Prop) (R9 : Mem → Int32 → Prop) (M : Mem) (x9_1 : Int32) : Prop :=
  ((((M 4 6) ≤ x9_1) → ∀ M3 : Mem, M3 = mset M 142 7 ((M 142 7) + (1 : Int32)) → post M3) ∧ ((¬ (M 4 6) ≤ x9_1) → vp_in x9_1 7 ∧ (vp_in x9_1 7 ∧ (∀ M4 : Mem, M4 = mset M 146 (x9_1).toNatClampNeg (M 145 (x9_1).toNatClampNeg) → ∀ z5 : Int32, z5 = x9_1 + (1 : Int32) → (R9 M4 z5)))))
def P_Sightings_noteOrder (M : Mem)  (post : Mem → Prop) : Prop :=
  ∀ (R9 : Mem → Int32 → Prop), (∀ (M : Mem) (x9_1 : Int32), B_Sightings_noteOrder_9  post R9 M x9_1 → R9 M x9_1) → B_Sightings_noteOrder_i  post R9 M
set_option maxHeartbeats 4000000 in
set_option maxRecDepth 100000 in
theorem c_Sightings_noteOrder {Z : ZT} (hZ : IsX Z) (l : Launch)  (M : Mem) (post : Mem → Prop) (h : P_Sightings_noteOrder M  post) : CtV Z l yX7_noteOrder cX7_noteOrder 2 none 0 0 [.ref (zb Z + 142)] M post := by
  refine ctV (own := RX7) rfl (by decide) (Nat.le_of_ble_eq_true rfl) (fun X C E hr hQ => ?_)
  have s9 : ∀ (M : Mem) (x9_1 : Int32), B_Sightings_noteOrder_9  post (fun (M : Mem) (x9_1 : Int32) => GS Z X 9 [(0, .ref (zb Z + 142)), (1, .int x9_1)] [] M) M x9_1 → GS Z X 9 [(0, .ref (zb Z + 142)), (1, .int x9_1)] [] M := by
    intro M x9_1 h
    unfold B_Sightings_noteOrder_9 at h
    refine g_iload_n (n := 10) (i := 1) C dX7_noteOrder_9 rfl 1 rfl rfl ?_
    refine g_aload_n (n := 11) (i := 0) C dX7_noteOrder_10 rfl 0 rfl rfl ?_
    refine gf_X7_38 (n := 14) C E (ox_142 hZ) dX7_noteOrder_11 rfl ?_
    refine gf_X7_48 (n := 17) C E (ox_4 hZ) dX7_noteOrder_14 rfl ?_
    refine g_icmp_ge (n := 20) (tgt := 38) C dX7_noteOrder_17 (by decide) rfl (fun c => ?_) (fun c => ?_)
    · replace h := h.1 c
      refine g_aload_n (n := 39) (i := 0) C dX7_noteOrder_38 rfl 0 rfl rfl ?_
      refine g_dup (n := 40) C dX7_noteOrder_39 rfl rfl ?_
      refine gf_X7_31 (n := 43) C E (ox_142 hZ) dX7_noteOrder_40 rfl ?_
      refine g_iconst (n := 44) (1 : Int32) C dX7_noteOrder_43 (by decide) rfl ?_
      refine g_iadd (n := 45) C dX7_noteOrder_44 rfl ?_
      refine gp_X7_31 (n := 48) C E (ox_142 hZ) dX7_noteOrder_45 rfl (fun M3 eM3 => ?_)
      replace h := h M3 eM3
      exact g_vret C hr hQ dX7_noteOrder_48 h
    · replace h := h.2 c
      refine g_aload_n (n := 21) (i := 0) C dX7_noteOrder_20 rfl 0 rfl rfl ?_
      refine gf_X7_21 (n := 24) 146 C E (ox_142 hZ) rfl dX7_noteOrder_21 rfl ?_
      refine g_iload_n (n := 25) (i := 1) C dX7_noteOrder_24 rfl 1 rfl rfl ?_
      refine g_aload_n (n := 26) (i := 0) C dX7_noteOrder_25 rfl 0 rfl rfl ?_
      refine gf_X7_18 (n := 29) 145 C E (ox_142 hZ) rfl dX7_noteOrder_26 rfl ?_
      refine g_iload_n (n := 30) (i := 1) C dX7_noteOrder_29 rfl 1 rfl rfl ?_
      refine g_iald (n := 31) C E (ox_145 hZ) h.1 dX7_noteOrder_30 rfl ?_
      replace h := h.2
      refine g_iast (n := 32) C E (ox_146 hZ) h.1 dX7_noteOrder_31 rfl (fun M4 eM4 => ?_)
      replace h := h.2 M4 eM4
      refine g_iinc (n := 35) (v := (1 : Int32)) C dX7_noteOrder_32 1 rfl (by decide) (Nat.le_of_ble_eq_true rfl) rfl rfl (fun z5 ez5 => ?_)
      replace h := h z5 ez5
      refine g_goto (tgt := 9) C dX7_noteOrder_35 (by decide) ?_
      exact g_sub [1, 0] rfl h
  replace h := h (fun (M : Mem) (x9_1 : Int32) => GS Z X 9 [(0, .ref (zb Z + 142)), (1, .int x9_1)] [] M) s9
  unfold B_Sightings_noteOrder_i at h
  show GS Z X 0 [(0, .ref (zb Z + 142))] [] M
  refine g_aload_n (n := 1) (i := 0) C dX7_noteOrder_0 rfl 0 rfl rfl ?_
  refine gf_X7_31 (n := 4) C E (ox_142 hZ) dX7_noteOrder_1 rfl ?_
  refine g_if_ne (n := 7) (tgt := 38) C dX7_noteOrder_4 (by decide) rfl (fun c => ?_) (fun c => ?_)
  · replace h := h.1 c
    refine g_aload_n (n := 39) (i := 0) C dX7_noteOrder_38 rfl 0 rfl rfl ?_
    refine g_dup (n := 40) C dX7_noteOrder_39 rfl rfl ?_
    refine gf_X7_31 (n := 43) C E (ox_142 hZ) dX7_noteOrder_40 rfl ?_
    refine g_iconst (n := 44) (1 : Int32) C dX7_noteOrder_43 (by decide) rfl ?_
    refine g_iadd (n := 45) C dX7_noteOrder_44 rfl ?_
    refine gp_X7_31 (n := 48) C E (ox_142 hZ) dX7_noteOrder_45 rfl (fun M1 eM1 => ?_)
    replace h := h M1 eM1
    exact g_vret C hr hQ dX7_noteOrder_48 h
  · replace h := h.2 c
    refine g_iconst (n := 8) (0 : Int32) C dX7_noteOrder_7 (by decide) rfl ?_
    refine g_istore_n (n := 9) (i := 1) C dX7_noteOrder_8 rfl (Nat.le_of_ble_eq_true rfl) rfl rfl (fun z2 ez2 => ?_)
    replace h := h z2 ez2
    exact g_sub [1, 0] rfl h
def B_Sightings_swap_i (p1 : Int32) (p2 : Int32) (post : Mem → Prop)  (M : Mem)  : Prop :=
  vp_in p1 7 ∧ (∀ z1 : Int32, z1 = (M 145 (p1).toNatClampNeg) → vp_in p2 7 ∧ (vp_in p1 7 ∧ (∀ M2 : Mem, M2 = mset M 145 (p1).toNatClampNeg (M 145 (p2).toNatClampNeg) → vp_in p2 7 ∧ (∀ M3 : Mem, M3 = mset M2 145 (p2).toNatClampNeg z1 → post M3))))
def P_Sightings_swap (M : Mem) (p1 : Int32) (p2 : Int32) (post : Mem → Prop) : Prop := B_Sightings_swap_i p1 p2 post M
set_option maxHeartbeats 4000000 in
set_option maxRecDepth 100000 in
theorem c_Sightings_swap {Z : ZT} (hZ : IsX Z) (l : Launch) (p1 : Int32) (p2 : Int32) (M : Mem) (post : Mem → Prop) (h : P_Sightings_swap M p1 p2 post) : CtV Z l yX7_swap cX7_swap 4 none 0 0 [.ref (zb Z + 142), .int p1, .int p2] M post := by
  refine ctV (own := RX7) rfl (by decide) (Nat.le_of_ble_eq_true rfl) (fun X C E hr hQ => ?_)
  unfold P_Sightings_swap at h
  unfold B_Sightings_swap_i at h
  show GS Z X 0 [(0, .ref (zb Z + 142)), (1, .int p1), (2, .int p2)] [] M
  refine g_aload_n (n := 1) (i := 0) C dX7_swap_0 rfl 0 rfl rfl ?_
  refine gf_X7_18 (n := 4) 145 C E (ox_142 hZ) rfl dX7_swap_1 rfl ?_
  refine g_iload_n (n := 5) (i := 1) C dX7_swap_4 rfl 1 rfl rfl ?_
  refine g_iald (n := 6) C E (ox_145 hZ) h.1 dX7_swap_5 rfl ?_
  replace h := h.2
  refine g_istore_n (n := 7) (i := 3) C dX7_swap_6 rfl (Nat.le_of_ble_eq_true rfl) rfl rfl (fun z1 ez1 => ?_)
  replace h := h z1 ez1
  refine g_aload_n (n := 8) (i := 0) C dX7_swap_7 rfl 1 rfl rfl ?_
  refine gf_X7_18 (n := 11) 145 C E (ox_142 hZ) rfl dX7_swap_8 rfl ?_
  refine g_iload_n (n := 12) (i := 1) C dX7_swap_11 rfl 2 rfl rfl ?_
  refine g_aload_n (n := 13) (i := 0) C dX7_swap_12 rfl 1 rfl rfl ?_
  refine gf_X7_18 (n := 16) 145 C E (ox_142 hZ) rfl dX7_swap_13 rfl ?_
  refine g_iload_n (n := 17) (i := 2) C dX7_swap_16 rfl 3 rfl rfl ?_
  refine g_iald (n := 18) C E (ox_145 hZ) h.1 dX7_swap_17 rfl ?_
  replace h := h.2
  refine g_iast (n := 19) C E (ox_145 hZ) h.1 dX7_swap_18 rfl (fun M2 eM2 => ?_)
  replace h := h.2 M2 eM2
  refine g_aload_n (n := 20) (i := 0) C dX7_swap_19 rfl 1 rfl rfl ?_
  refine gf_X7_18 (n := 23) 145 C E (ox_142 hZ) rfl dX7_swap_20 rfl ?_
  refine g_iload_n (n := 24) (i := 2) C dX7_swap_23 rfl 3 rfl rfl ?_
  refine g_iload_n (n := 25) (i := 3) C dX7_swap_24 rfl 0 rfl rfl ?_
  refine g_iast (n := 26) C E (ox_145 hZ) h.1 dX7_swap_25 rfl (fun M3 eM3 => ?_)
  replace h := h.2 M3 eM3
  exact g_vret C hr hQ dX7_swap_26 h
def B_Sightings_nextOrder_i  (post : Int32 → Mem → Prop) (R10 : Mem → Int32 → Prop) (R53 : Mem → Int32 → Int32 → Prop) (R79 : Mem → Int32 → Int32 → Prop) (R100 : Mem → Int32 → Int32 → Prop) (M : Mem)  : Prop :=
  ∀ z1 : Int32, z1 = ((M 4 6) - (2 : Int32)) → (R10 M z1)
def B_Sightings_nextOrder_10  (post : Int32 → Mem → Prop) (R10 : Mem → Int32 → Prop) (R53 : Mem → Int32 → Int32 → Prop) (R79 : Mem → Int32 → Int32 → Prop) (R100 : Mem → Int32 → Int32 → Prop) (M : Mem) (x10_1 : Int32) : Prop :=
  (((x10_1 < 0) → (((0 ≤ x10_1) → ∀ z2 : Int32, z2 = ((M 4 6) - (1 : Int32)) → (R53 M x10_1 z2)) ∧ ((¬ 0 ≤ x10_1) → post (0 : Int32) M))) ∧ ((¬ x10_1 < 0) → vp_in x10_1 7 ∧ (vp_in (x10_1 + (1 : Int32)) 7 ∧ (((((M 145 (x10_1).toNatClampNeg) ≤ (M 145 ((x10_1 + (1 : Int32))).toNatClampNeg)) → (((0 ≤ x10_1) → ∀ z3 : Int32, z3 = ((M 4 6) - (1 : Int32)) → (R53 M x10_1 z3)) ∧ ((¬ 0 ≤ x10_1) → post (0 : Int32) M))) ∧ ((¬ (M 145 (x10_1).toNatClampNeg) ≤ (M 145 ((x10_1 + (1 : Int32))).toNatClampNeg)) → ∀ z4 : Int32, z4 = x10_1 + (-1 : Int32) → (R10 M z4)))))))
def B_Sightings_nextOrder_53  (post : Int32 → Mem → Prop) (R10 : Mem → Int32 → Prop) (R53 : Mem → Int32 → Int32 → Prop) (R79 : Mem → Int32 → Int32 → Prop) (R100 : Mem → Int32 → Int32 → Prop) (M : Mem) (x53_1 : Int32) (x53_2 : Int32) : Prop :=
  (((x53_2 ≤ x53_1) → (R79 M x53_1 x53_2)) ∧ ((¬ x53_2 ≤ x53_1) → vp_in x53_2 7 ∧ (vp_in x53_1 7 ∧ (((((M 145 (x53_1).toNatClampNeg) ≤ (M 145 (x53_2).toNatClampNeg)) → (R79 M x53_1 x53_2)) ∧ ((¬ (M 145 (x53_1).toNatClampNeg) ≤ (M 145 (x53_2).toNatClampNeg)) → ∀ z5 : Int32, z5 = x53_2 + (-1 : Int32) → (R53 M x53_1 z5)))))))
def B_Sightings_nextOrder_79  (post : Int32 → Mem → Prop) (R10 : Mem → Int32 → Prop) (R53 : Mem → Int32 → Int32 → Prop) (R79 : Mem → Int32 → Int32 → Prop) (R100 : Mem → Int32 → Int32 → Prop) (M : Mem) (x79_1 : Int32) (x79_2 : Int32) : Prop :=
  P_Sightings_swap M x79_1 x79_2 (fun (M6 : Mem) => ∀ z7 : Int32, z7 = (x79_1 + (1 : Int32)) → ∀ z8 : Int32, z8 = ((M6 4 6) - (1 : Int32)) → (R100 M6 z7 z8))
def B_Sightings_nextOrder_100  (post : Int32 → Mem → Prop) (R10 : Mem → Int32 → Prop) (R53 : Mem → Int32 → Int32 → Prop) (R79 : Mem → Int32 → Int32 → Prop) (R100 : Mem → Int32 → Int32 → Prop) (M : Mem) (x100_3 : Int32) (x100_4 : Int32) : Prop :=
  (((x100_4 ≤ x100_3) → post (1 : Int32) M) ∧ ((¬ x100_4 ≤ x100_3) → P_Sightings_swap M x100_3 x100_4 (fun (M9 : Mem) => ∀ z10 : Int32, z10 = x100_3 + (1 : Int32) → ∀ z11 : Int32, z11 = x100_4 + (-1 : Int32) → (R100 M9 z10 z11))))
def P_Sightings_nextOrder (M : Mem)  (post : Int32 → Mem → Prop) : Prop :=
  ∀ (R10 : Mem → Int32 → Prop) (R53 : Mem → Int32 → Int32 → Prop) (R79 : Mem → Int32 → Int32 → Prop) (R100 : Mem → Int32 → Int32 → Prop), (∀ (M : Mem) (x10_1 : Int32), B_Sightings_nextOrder_10  post R10 R53 R79 R100 M x10_1 → R10 M x10_1) → (∀ (M : Mem) (x53_1 : Int32) (x53_2 : Int32), B_Sightings_nextOrder_53  post R10 R53 R79 R100 M x53_1 x53_2 → R53 M x53_1 x53_2) → (∀ (M : Mem) (x79_1 : Int32) (x79_2 : Int32), B_Sightings_nextOrder_79  post R10 R53 R79 R100 M x79_1 x79_2 → R79 M x79_1 x79_2) → (∀ (M : Mem) (x100_3 : Int32) (x100_4 : Int32), B_Sightings_nextOrder_100  post R10 R53 R79 R100 M x100_3 x100_4 → R100 M x100_3 x100_4) → B_Sightings_nextOrder_i  post R10 R53 R79 R100 M
set_option maxHeartbeats 4000000 in
set_option maxRecDepth 100000 in
theorem c_Sightings_nextOrder {Z : ZT} (hZ : IsX Z) (l : Launch)  (M : Mem) (post : Int32 → Mem → Prop) (h : P_Sightings_nextOrder M  post) : CtI Z l yX7_nextOrder cX7_nextOrder 5 (some .boolean) 1 23 [.ref (zb Z + 142)] M post := by
  refine ctI (own := RX7) rfl (by decide) (Nat.le_of_ble_eq_true rfl) (fun X C E hr hQ => ?_)
  have s10 : ∀ (M : Mem) (x10_1 : Int32), B_Sightings_nextOrder_10  post (fun (M : Mem) (x10_1 : Int32) => GS Z X 10 [(0, .ref (zb Z + 142)), (1, .int x10_1)] [] M) (fun (M : Mem) (x53_1 : Int32) (x53_2 : Int32) => GS Z X 53 [(0, .ref (zb Z + 142)), (1, .int x53_1), (2, .int x53_2)] [] M) (fun (M : Mem) (x79_1 : Int32) (x79_2 : Int32) => GS Z X 79 [(0, .ref (zb Z + 142)), (1, .int x79_1), (2, .int x79_2)] [] M) (fun (M : Mem) (x100_3 : Int32) (x100_4 : Int32) => GS Z X 100 [(0, .ref (zb Z + 142)), (3, .int x100_3), (4, .int x100_4)] [] M) M x10_1 → GS Z X 10 [(0, .ref (zb Z + 142)), (1, .int x10_1)] [] M := by
    intro M x10_1 h
    unfold B_Sightings_nextOrder_10 at h
    refine g_iload_n (n := 11) (i := 1) C dX7_nextOrder_10 rfl 1 rfl rfl ?_
    refine g_if_lt (n := 14) (tgt := 37) C dX7_nextOrder_11 (by decide) rfl (fun c => ?_) (fun c => ?_)
    · replace h := h.1 c
      refine g_iload_n (n := 38) (i := 1) C dX7_nextOrder_37 rfl 1 rfl rfl ?_
      refine g_if_ge (n := 41) (tgt := 43) C dX7_nextOrder_38 (by decide) rfl (fun c => ?_) (fun c => ?_)
      · replace h := h.1 c
        refine g_aload_n (n := 44) (i := 0) C dX7_nextOrder_43 rfl 0 rfl rfl ?_
        refine gf_X7_38 (n := 47) C E (ox_142 hZ) dX7_nextOrder_44 rfl ?_
        refine gf_X7_48 (n := 50) C E (ox_4 hZ) dX7_nextOrder_47 rfl ?_
        refine g_iconst (n := 51) (1 : Int32) C dX7_nextOrder_50 (by decide) rfl ?_
        refine g_isub (n := 52) C dX7_nextOrder_51 rfl ?_
        refine g_istore_n (n := 53) (i := 2) C dX7_nextOrder_52 rfl (Nat.le_of_ble_eq_true rfl) rfl rfl (fun z2 ez2 => ?_)
        replace h := h z2 ez2
        exact g_sub [1, 2, 0] rfl h
      · replace h := h.2 c
        refine g_iconst (n := 42) (0 : Int32) C dX7_nextOrder_41 (by decide) rfl ?_
        exact g_zret C hr hQ dX7_nextOrder_42 rfl h
    · replace h := h.2 c
      refine g_aload_n (n := 15) (i := 0) C dX7_nextOrder_14 rfl 0 rfl rfl ?_
      refine gf_X7_18 (n := 18) 145 C E (ox_142 hZ) rfl dX7_nextOrder_15 rfl ?_
      refine g_iload_n (n := 19) (i := 1) C dX7_nextOrder_18 rfl 1 rfl rfl ?_
      refine g_iald (n := 20) C E (ox_145 hZ) h.1 dX7_nextOrder_19 rfl ?_
      replace h := h.2
      refine g_aload_n (n := 21) (i := 0) C dX7_nextOrder_20 rfl 0 rfl rfl ?_
      refine gf_X7_18 (n := 24) 145 C E (ox_142 hZ) rfl dX7_nextOrder_21 rfl ?_
      refine g_iload_n (n := 25) (i := 1) C dX7_nextOrder_24 rfl 1 rfl rfl ?_
      refine g_iconst (n := 26) (1 : Int32) C dX7_nextOrder_25 (by decide) rfl ?_
      refine g_iadd (n := 27) C dX7_nextOrder_26 rfl ?_
      refine g_iald (n := 28) C E (ox_145 hZ) h.1 dX7_nextOrder_27 rfl ?_
      replace h := h.2
      refine g_icmp_le (n := 31) (tgt := 37) C dX7_nextOrder_28 (by decide) rfl (fun c => ?_) (fun c => ?_)
      · replace h := h.1 c
        refine g_iload_n (n := 38) (i := 1) C dX7_nextOrder_37 rfl 1 rfl rfl ?_
        refine g_if_ge (n := 41) (tgt := 43) C dX7_nextOrder_38 (by decide) rfl (fun c => ?_) (fun c => ?_)
        · replace h := h.1 c
          refine g_aload_n (n := 44) (i := 0) C dX7_nextOrder_43 rfl 0 rfl rfl ?_
          refine gf_X7_38 (n := 47) C E (ox_142 hZ) dX7_nextOrder_44 rfl ?_
          refine gf_X7_48 (n := 50) C E (ox_4 hZ) dX7_nextOrder_47 rfl ?_
          refine g_iconst (n := 51) (1 : Int32) C dX7_nextOrder_50 (by decide) rfl ?_
          refine g_isub (n := 52) C dX7_nextOrder_51 rfl ?_
          refine g_istore_n (n := 53) (i := 2) C dX7_nextOrder_52 rfl (Nat.le_of_ble_eq_true rfl) rfl rfl (fun z3 ez3 => ?_)
          replace h := h z3 ez3
          exact g_sub [1, 2, 0] rfl h
        · replace h := h.2 c
          refine g_iconst (n := 42) (0 : Int32) C dX7_nextOrder_41 (by decide) rfl ?_
          exact g_zret C hr hQ dX7_nextOrder_42 rfl h
      · replace h := h.2 c
        refine g_iinc (n := 34) (v := (-1 : Int32)) C dX7_nextOrder_31 1 rfl (by decide) (Nat.le_of_ble_eq_true rfl) rfl rfl (fun z4 ez4 => ?_)
        replace h := h z4 ez4
        refine g_goto (tgt := 10) C dX7_nextOrder_34 (by decide) ?_
        exact g_sub [1, 0] rfl h
  have s53 : ∀ (M : Mem) (x53_1 : Int32) (x53_2 : Int32), B_Sightings_nextOrder_53  post (fun (M : Mem) (x10_1 : Int32) => GS Z X 10 [(0, .ref (zb Z + 142)), (1, .int x10_1)] [] M) (fun (M : Mem) (x53_1 : Int32) (x53_2 : Int32) => GS Z X 53 [(0, .ref (zb Z + 142)), (1, .int x53_1), (2, .int x53_2)] [] M) (fun (M : Mem) (x79_1 : Int32) (x79_2 : Int32) => GS Z X 79 [(0, .ref (zb Z + 142)), (1, .int x79_1), (2, .int x79_2)] [] M) (fun (M : Mem) (x100_3 : Int32) (x100_4 : Int32) => GS Z X 100 [(0, .ref (zb Z + 142)), (3, .int x100_3), (4, .int x100_4)] [] M) M x53_1 x53_2 → GS Z X 53 [(0, .ref (zb Z + 142)), (1, .int x53_1), (2, .int x53_2)] [] M := by
    intro M x53_1 x53_2 h
    unfold B_Sightings_nextOrder_53 at h
    refine g_iload_n (n := 54) (i := 2) C dX7_nextOrder_53 rfl 2 rfl rfl ?_
    refine g_iload_n (n := 55) (i := 1) C dX7_nextOrder_54 rfl 1 rfl rfl ?_
    refine g_icmp_le (n := 58) (tgt := 79) C dX7_nextOrder_55 (by decide) rfl (fun c => ?_) (fun c => ?_)
    · replace h := h.1 c
      exact g_sub [0, 1, 2] rfl h
    · replace h := h.2 c
      refine g_aload_n (n := 59) (i := 0) C dX7_nextOrder_58 rfl 0 rfl rfl ?_
      refine gf_X7_18 (n := 62) 145 C E (ox_142 hZ) rfl dX7_nextOrder_59 rfl ?_
      refine g_iload_n (n := 63) (i := 2) C dX7_nextOrder_62 rfl 2 rfl rfl ?_
      refine g_iald (n := 64) C E (ox_145 hZ) h.1 dX7_nextOrder_63 rfl ?_
      replace h := h.2
      refine g_aload_n (n := 65) (i := 0) C dX7_nextOrder_64 rfl 0 rfl rfl ?_
      refine gf_X7_18 (n := 68) 145 C E (ox_142 hZ) rfl dX7_nextOrder_65 rfl ?_
      refine g_iload_n (n := 69) (i := 1) C dX7_nextOrder_68 rfl 1 rfl rfl ?_
      refine g_iald (n := 70) C E (ox_145 hZ) h.1 dX7_nextOrder_69 rfl ?_
      replace h := h.2
      refine g_icmp_ge (n := 73) (tgt := 79) C dX7_nextOrder_70 (by decide) rfl (fun c => ?_) (fun c => ?_)
      · replace h := h.1 c
        exact g_sub [0, 1, 2] rfl h
      · replace h := h.2 c
        refine g_iinc (n := 76) (v := (-1 : Int32)) C dX7_nextOrder_73 2 rfl (by decide) (Nat.le_of_ble_eq_true rfl) rfl rfl (fun z5 ez5 => ?_)
        replace h := h z5 ez5
        refine g_goto (tgt := 53) C dX7_nextOrder_76 (by decide) ?_
        exact g_sub [1, 2, 0] rfl h
  have s79 : ∀ (M : Mem) (x79_1 : Int32) (x79_2 : Int32), B_Sightings_nextOrder_79  post (fun (M : Mem) (x10_1 : Int32) => GS Z X 10 [(0, .ref (zb Z + 142)), (1, .int x10_1)] [] M) (fun (M : Mem) (x53_1 : Int32) (x53_2 : Int32) => GS Z X 53 [(0, .ref (zb Z + 142)), (1, .int x53_1), (2, .int x53_2)] [] M) (fun (M : Mem) (x79_1 : Int32) (x79_2 : Int32) => GS Z X 79 [(0, .ref (zb Z + 142)), (1, .int x79_1), (2, .int x79_2)] [] M) (fun (M : Mem) (x100_3 : Int32) (x100_4 : Int32) => GS Z X 100 [(0, .ref (zb Z + 142)), (3, .int x100_3), (4, .int x100_4)] [] M) M x79_1 x79_2 → GS Z X 79 [(0, .ref (zb Z + 142)), (1, .int x79_1), (2, .int x79_2)] [] M := by
    intro M x79_1 x79_2 h
    unfold B_Sightings_nextOrder_79 at h
    refine g_aload_n (n := 80) (i := 0) C dX7_nextOrder_79 rfl 0 rfl rfl ?_
    refine g_iload_n (n := 81) (i := 1) C dX7_nextOrder_80 rfl 1 rfl rfl ?_
    refine g_iload_n (n := 82) (i := 2) C dX7_nextOrder_81 rfl 2 rfl rfl ?_
    refine g_callVv (n := 85) (kd := 7) C E (c_Sightings_swap hZ _ x79_1 x79_2 M _ h) yi_X7_swap wd_725 rfl (ox_142 hZ) (by decide) (Nat.le_of_ble_eq_true rfl) dX7_nextOrder_82 rfl rfl (fun M6 h => ?_)
    refine g_iload_n (n := 86) (i := 1) C dX7_nextOrder_85 rfl 1 rfl rfl ?_
    refine g_iconst (n := 87) (1 : Int32) C dX7_nextOrder_86 (by decide) rfl ?_
    refine g_iadd (n := 88) C dX7_nextOrder_87 rfl ?_
    refine g_istore_n (n := 89) (i := 3) C dX7_nextOrder_88 rfl (Nat.le_of_ble_eq_true rfl) rfl rfl (fun z7 ez7 => ?_)
    replace h := h z7 ez7
    refine g_aload_n (n := 90) (i := 0) C dX7_nextOrder_89 rfl 1 rfl rfl ?_
    refine gf_X7_38 (n := 93) C E (ox_142 hZ) dX7_nextOrder_90 rfl ?_
    refine gf_X7_48 (n := 96) C E (ox_4 hZ) dX7_nextOrder_93 rfl ?_
    refine g_iconst (n := 97) (1 : Int32) C dX7_nextOrder_96 (by decide) rfl ?_
    refine g_isub (n := 98) C dX7_nextOrder_97 rfl ?_
    refine g_istore (n := 100) (i := 4) C dX7_nextOrder_98 (Nat.le_of_ble_eq_true rfl) rfl rfl (fun z8 ez8 => ?_)
    replace h := h z8 ez8
    exact g_sub [2, 1, 0] rfl h
  have s100 : ∀ (M : Mem) (x100_3 : Int32) (x100_4 : Int32), B_Sightings_nextOrder_100  post (fun (M : Mem) (x10_1 : Int32) => GS Z X 10 [(0, .ref (zb Z + 142)), (1, .int x10_1)] [] M) (fun (M : Mem) (x53_1 : Int32) (x53_2 : Int32) => GS Z X 53 [(0, .ref (zb Z + 142)), (1, .int x53_1), (2, .int x53_2)] [] M) (fun (M : Mem) (x79_1 : Int32) (x79_2 : Int32) => GS Z X 79 [(0, .ref (zb Z + 142)), (1, .int x79_1), (2, .int x79_2)] [] M) (fun (M : Mem) (x100_3 : Int32) (x100_4 : Int32) => GS Z X 100 [(0, .ref (zb Z + 142)), (3, .int x100_3), (4, .int x100_4)] [] M) M x100_3 x100_4 → GS Z X 100 [(0, .ref (zb Z + 142)), (3, .int x100_3), (4, .int x100_4)] [] M := by
    intro M x100_3 x100_4 h
    unfold B_Sightings_nextOrder_100 at h
    refine g_iload_n (n := 101) (i := 3) C dX7_nextOrder_100 rfl 1 rfl rfl ?_
    refine g_iload (n := 103) C dX7_nextOrder_101 2 rfl rfl ?_
    refine g_icmp_ge (n := 106) (tgt := 122) C dX7_nextOrder_103 (by decide) rfl (fun c => ?_) (fun c => ?_)
    · replace h := h.1 c
      refine g_iconst (n := 123) (1 : Int32) C dX7_nextOrder_122 (by decide) rfl ?_
      exact g_zret C hr hQ dX7_nextOrder_123 rfl h
    · replace h := h.2 c
      refine g_aload_n (n := 107) (i := 0) C dX7_nextOrder_106 rfl 0 rfl rfl ?_
      refine g_iload_n (n := 108) (i := 3) C dX7_nextOrder_107 rfl 1 rfl rfl ?_
      refine g_iload (n := 110) C dX7_nextOrder_108 2 rfl rfl ?_
      refine g_callVv (n := 113) (kd := 7) C E (c_Sightings_swap hZ _ x100_3 x100_4 M _ h) yi_X7_swap wd_725 rfl (ox_142 hZ) (by decide) (Nat.le_of_ble_eq_true rfl) dX7_nextOrder_110 rfl rfl (fun M9 h => ?_)
      refine g_iinc (n := 116) (v := (1 : Int32)) C dX7_nextOrder_113 1 rfl (by decide) (Nat.le_of_ble_eq_true rfl) rfl rfl (fun z10 ez10 => ?_)
      replace h := h z10 ez10
      refine g_iinc (n := 119) (v := (-1 : Int32)) C dX7_nextOrder_116 2 rfl (by decide) (Nat.le_of_ble_eq_true rfl) rfl rfl (fun z11 ez11 => ?_)
      replace h := h z11 ez11
      refine g_goto (tgt := 100) C dX7_nextOrder_119 (by decide) ?_
      exact g_sub [2, 1, 0] rfl h
  replace h := h (fun (M : Mem) (x10_1 : Int32) => GS Z X 10 [(0, .ref (zb Z + 142)), (1, .int x10_1)] [] M) (fun (M : Mem) (x53_1 : Int32) (x53_2 : Int32) => GS Z X 53 [(0, .ref (zb Z + 142)), (1, .int x53_1), (2, .int x53_2)] [] M) (fun (M : Mem) (x79_1 : Int32) (x79_2 : Int32) => GS Z X 79 [(0, .ref (zb Z + 142)), (1, .int x79_1), (2, .int x79_2)] [] M) (fun (M : Mem) (x100_3 : Int32) (x100_4 : Int32) => GS Z X 100 [(0, .ref (zb Z + 142)), (3, .int x100_3), (4, .int x100_4)] [] M) s10 s53 s79 s100
  unfold B_Sightings_nextOrder_i at h
  show GS Z X 0 [(0, .ref (zb Z + 142))] [] M
  refine g_aload_n (n := 1) (i := 0) C dX7_nextOrder_0 rfl 0 rfl rfl ?_
  refine gf_X7_38 (n := 4) C E (ox_142 hZ) dX7_nextOrder_1 rfl ?_
  refine gf_X7_48 (n := 7) C E (ox_4 hZ) dX7_nextOrder_4 rfl ?_
  refine g_iconst (n := 8) (2 : Int32) C dX7_nextOrder_7 (by decide) rfl ?_
  refine g_isub (n := 9) C dX7_nextOrder_8 rfl ?_
  refine g_istore_n (n := 10) (i := 1) C dX7_nextOrder_9 rfl (Nat.le_of_ble_eq_true rfl) rfl rfl (fun z1 ez1 => ?_)
  replace h := h z1 ez1
  exact g_sub [1, 0] rfl h
def B_Sightings_refresh_i  (post : Mem → Prop) (R20 : Mem → Int32 → Prop) (R48 : Mem → Int32 → Int32 → Prop) (M : Mem)  : Prop :=
  (((¬ (M 142 8) = 0) → ∀ M1 : Mem, M1 = mset M 142 8 (0 : Int32) → ∀ M2 : Mem, M2 = mset M1 142 7 (0 : Int32) → ∀ z3 : Int32, z3 = (0 : Int32) → (R20 M2 z3)) ∧ (((M 142 8) = 0) → post M))
def B_Sightings_refresh_20  (post : Mem → Prop) (R20 : Mem → Int32 → Prop) (R48 : Mem → Int32 → Int32 → Prop) (M : Mem) (x20_1 : Int32) : Prop :=
  ((((M 4 6) ≤ x20_1) → ∀ z4 : Int32, z4 = (1 : Int32) → ∀ z5 : Int32, z5 = (0 : Int32) → (R48 M z4 z5)) ∧ ((¬ (M 4 6) ≤ x20_1) → vp_in x20_1 7 ∧ (∀ M6 : Mem, M6 = mset M 145 (x20_1).toNatClampNeg x20_1 → ∀ z7 : Int32, z7 = x20_1 + (1 : Int32) → (R20 M6 z7))))
def B_Sightings_refresh_48  (post : Mem → Prop) (R20 : Mem → Int32 → Prop) (R48 : Mem → Int32 → Int32 → Prop) (M : Mem) (x48_1 : Int32) (x48_2 : Int32) : Prop :=
  ((((1000000 : Int32) ≤ x48_2) → post M) ∧ ((¬ (1000000 : Int32) ≤ x48_2) → (((x48_1 = 0) → post M) ∧ ((¬ x48_1 = 0) → P_Sightings_comeInOrder M (fun (M8 : Mem) => P_Sightings_isAsSeen M8 (fun (r10 : Int32) (M9 : Mem) => (((r10 = 0) → P_Sightings_nextOrder M9 (fun (r12 : Int32) (M11 : Mem) => ∀ z13 : Int32, z13 = r12 → ∀ z14 : Int32, z14 = x48_2 + (1 : Int32) → (R48 M11 z13 z14))) ∧ ((¬ r10 = 0) → P_Sightings_noteOrder M9 (fun (M15 : Mem) => P_Sightings_nextOrder M15 (fun (r17 : Int32) (M16 : Mem) => ∀ z18 : Int32, z18 = r17 → ∀ z19 : Int32, z19 = x48_2 + (1 : Int32) → (R48 M16 z18 z19)))))))))))
def P_Sightings_refresh (M : Mem)  (post : Mem → Prop) : Prop :=
  ∀ (R20 : Mem → Int32 → Prop) (R48 : Mem → Int32 → Int32 → Prop), (∀ (M : Mem) (x20_1 : Int32), B_Sightings_refresh_20  post R20 R48 M x20_1 → R20 M x20_1) → (∀ (M : Mem) (x48_1 : Int32) (x48_2 : Int32), B_Sightings_refresh_48  post R20 R48 M x48_1 x48_2 → R48 M x48_1 x48_2) → B_Sightings_refresh_i  post R20 R48 M
set_option maxHeartbeats 4000000 in
set_option maxRecDepth 100000 in
theorem c_Sightings_refresh {Z : ZT} (hZ : IsX Z) (l : Launch)  (M : Mem) (post : Mem → Prop) (h : P_Sightings_refresh M  post) : CtV Z l yX7_refresh cX7_refresh 3 none 3 70 [.ref (zb Z + 142)] M post := by
  refine ctV (own := RX7) rfl (by decide) (Nat.le_of_ble_eq_true rfl) (fun X C E hr hQ => ?_)
  have s20 : ∀ (M : Mem) (x20_1 : Int32), B_Sightings_refresh_20  post (fun (M : Mem) (x20_1 : Int32) => GS Z X 20 [(0, .ref (zb Z + 142)), (1, .int x20_1)] [] M) (fun (M : Mem) (x48_1 : Int32) (x48_2 : Int32) => GS Z X 48 [(0, .ref (zb Z + 142)), (1, .int x48_1), (2, .int x48_2)] [] M) M x20_1 → GS Z X 20 [(0, .ref (zb Z + 142)), (1, .int x20_1)] [] M := by
    intro M x20_1 h
    unfold B_Sightings_refresh_20 at h
    refine g_iload_n (n := 21) (i := 1) C dX7_refresh_20 rfl 1 rfl rfl ?_
    refine g_aload_n (n := 22) (i := 0) C dX7_refresh_21 rfl 0 rfl rfl ?_
    refine gf_X7_38 (n := 25) C E (ox_142 hZ) dX7_refresh_22 rfl ?_
    refine gf_X7_48 (n := 28) C E (ox_4 hZ) dX7_refresh_25 rfl ?_
    refine g_icmp_ge (n := 31) (tgt := 44) C dX7_refresh_28 (by decide) rfl (fun c => ?_) (fun c => ?_)
    · replace h := h.1 c
      refine g_iconst (n := 45) (1 : Int32) C dX7_refresh_44 (by decide) rfl ?_
      refine g_istore_n (n := 46) (i := 1) C dX7_refresh_45 rfl (Nat.le_of_ble_eq_true rfl) rfl rfl (fun z4 ez4 => ?_)
      replace h := h z4 ez4
      refine g_iconst (n := 47) (0 : Int32) C dX7_refresh_46 (by decide) rfl ?_
      refine g_istore_n (n := 48) (i := 2) C dX7_refresh_47 rfl (Nat.le_of_ble_eq_true rfl) rfl rfl (fun z5 ez5 => ?_)
      replace h := h z5 ez5
      exact g_sub [2, 1, 0] rfl h
    · replace h := h.2 c
      refine g_aload_n (n := 32) (i := 0) C dX7_refresh_31 rfl 0 rfl rfl ?_
      refine gf_X7_18 (n := 35) 145 C E (ox_142 hZ) rfl dX7_refresh_32 rfl ?_
      refine g_iload_n (n := 36) (i := 1) C dX7_refresh_35 rfl 1 rfl rfl ?_
      refine g_iload_n (n := 37) (i := 1) C dX7_refresh_36 rfl 1 rfl rfl ?_
      refine g_iast (n := 38) C E (ox_145 hZ) h.1 dX7_refresh_37 rfl (fun M6 eM6 => ?_)
      replace h := h.2 M6 eM6
      refine g_iinc (n := 41) (v := (1 : Int32)) C dX7_refresh_38 1 rfl (by decide) (Nat.le_of_ble_eq_true rfl) rfl rfl (fun z7 ez7 => ?_)
      replace h := h z7 ez7
      refine g_goto (tgt := 20) C dX7_refresh_41 (by decide) ?_
      exact g_sub [1, 0] rfl h
  have s48 : ∀ (M : Mem) (x48_1 : Int32) (x48_2 : Int32), B_Sightings_refresh_48  post (fun (M : Mem) (x20_1 : Int32) => GS Z X 20 [(0, .ref (zb Z + 142)), (1, .int x20_1)] [] M) (fun (M : Mem) (x48_1 : Int32) (x48_2 : Int32) => GS Z X 48 [(0, .ref (zb Z + 142)), (1, .int x48_1), (2, .int x48_2)] [] M) M x48_1 x48_2 → GS Z X 48 [(0, .ref (zb Z + 142)), (1, .int x48_1), (2, .int x48_2)] [] M := by
    intro M x48_1 x48_2 h
    unfold B_Sightings_refresh_48 at h
    refine g_iload_n (n := 49) (i := 2) C dX7_refresh_48 rfl 2 rfl rfl ?_
    refine g_ldc (n := 51) (1000000 : Int32) C wd_703 dX7_refresh_49 rfl ?_
    refine g_icmp_ge (n := 54) (tgt := 84) C dX7_refresh_51 (by decide) rfl (fun c => ?_) (fun c => ?_)
    · replace h := h.1 c
      exact g_vret C hr hQ dX7_refresh_84 h
    · replace h := h.2 c
      refine g_iload_n (n := 55) (i := 1) C dX7_refresh_54 rfl 1 rfl rfl ?_
      refine g_if_eq (n := 58) (tgt := 84) C dX7_refresh_55 (by decide) rfl (fun c => ?_) (fun c => ?_)
      · replace h := h.1 c
        exact g_vret C hr hQ dX7_refresh_84 h
      · replace h := h.2 c
        refine g_aload_n (n := 59) (i := 0) C dX7_refresh_58 rfl 0 rfl rfl ?_
        refine g_callVv (n := 62) (kd := 7) C E (c_Sightings_comeInOrder hZ _  M _ h) yi_X7_comeInOrder wd_704 rfl (ox_142 hZ) (by decide) (Nat.le_of_ble_eq_true rfl) dX7_refresh_59 rfl rfl (fun M8 h => ?_)
        refine g_aload_n (n := 63) (i := 0) C dX7_refresh_62 rfl 0 rfl rfl ?_
        refine g_callVi (n := 66) (kd := 7) C E (c_Sightings_isAsSeen hZ _  M8 _ h) yi_X7_isAsSeen wd_713 rfl (ox_142 hZ) (by decide) (Nat.le_of_ble_eq_true rfl) dX7_refresh_63 rfl rfl (fun r10 M9 h => ?_)
        refine g_if_eq (n := 69) (tgt := 73) C dX7_refresh_66 (by decide) rfl (fun c => ?_) (fun c => ?_)
        · replace h := h.1 c
          refine g_aload_n (n := 74) (i := 0) C dX7_refresh_73 rfl 0 rfl rfl ?_
          refine g_callVi (n := 77) (kd := 7) C E (c_Sightings_nextOrder hZ _  M9 _ h) yi_X7_nextOrder wd_721 rfl (ox_142 hZ) (by decide) (Nat.le_of_ble_eq_true rfl) dX7_refresh_74 rfl rfl (fun r12 M11 h => ?_)
          refine g_istore_n (n := 78) (i := 1) C dX7_refresh_77 rfl (Nat.le_of_ble_eq_true rfl) rfl rfl (fun z13 ez13 => ?_)
          replace h := h z13 ez13
          refine g_iinc (n := 81) (v := (1 : Int32)) C dX7_refresh_78 2 rfl (by decide) (Nat.le_of_ble_eq_true rfl) rfl rfl (fun z14 ez14 => ?_)
          replace h := h z14 ez14
          refine g_goto (tgt := 48) C dX7_refresh_81 (by decide) ?_
          exact g_sub [2, 1, 0] rfl h
        · replace h := h.2 c
          refine g_aload_n (n := 70) (i := 0) C dX7_refresh_69 rfl 0 rfl rfl ?_
          refine g_callVv (n := 73) (kd := 7) C E (c_Sightings_noteOrder hZ _  M9 _ h) yi_X7_noteOrder wd_717 rfl (ox_142 hZ) (by decide) (Nat.le_of_ble_eq_true rfl) dX7_refresh_70 rfl rfl (fun M15 h => ?_)
          refine g_aload_n (n := 74) (i := 0) C dX7_refresh_73 rfl 0 rfl rfl ?_
          refine g_callVi (n := 77) (kd := 7) C E (c_Sightings_nextOrder hZ _  M15 _ h) yi_X7_nextOrder wd_721 rfl (ox_142 hZ) (by decide) (Nat.le_of_ble_eq_true rfl) dX7_refresh_74 rfl rfl (fun r17 M16 h => ?_)
          refine g_istore_n (n := 78) (i := 1) C dX7_refresh_77 rfl (Nat.le_of_ble_eq_true rfl) rfl rfl (fun z18 ez18 => ?_)
          replace h := h z18 ez18
          refine g_iinc (n := 81) (v := (1 : Int32)) C dX7_refresh_78 2 rfl (by decide) (Nat.le_of_ble_eq_true rfl) rfl rfl (fun z19 ez19 => ?_)
          replace h := h z19 ez19
          refine g_goto (tgt := 48) C dX7_refresh_81 (by decide) ?_
          exact g_sub [2, 1, 0] rfl h
  replace h := h (fun (M : Mem) (x20_1 : Int32) => GS Z X 20 [(0, .ref (zb Z + 142)), (1, .int x20_1)] [] M) (fun (M : Mem) (x48_1 : Int32) (x48_2 : Int32) => GS Z X 48 [(0, .ref (zb Z + 142)), (1, .int x48_1), (2, .int x48_2)] [] M) s20 s48
  unfold B_Sightings_refresh_i at h
  show GS Z X 0 [(0, .ref (zb Z + 142))] [] M
  refine g_aload_n (n := 1) (i := 0) C dX7_refresh_0 rfl 0 rfl rfl ?_
  refine gf_X7_34 (n := 4) C E (ox_142 hZ) dX7_refresh_1 rfl ?_
  refine g_if_ne (n := 7) (tgt := 8) C dX7_refresh_4 (by decide) rfl (fun c => ?_) (fun c => ?_)
  · replace h := h.1 c
    refine g_aload_n (n := 9) (i := 0) C dX7_refresh_8 rfl 0 rfl rfl ?_
    refine g_iconst (n := 10) (0 : Int32) C dX7_refresh_9 (by decide) rfl ?_
    refine gp_X7_34 (n := 13) C E (ox_142 hZ) rfl rfl dX7_refresh_10 rfl (fun M1 eM1 => ?_)
    replace h := h M1 eM1
    refine g_aload_n (n := 14) (i := 0) C dX7_refresh_13 rfl 0 rfl rfl ?_
    refine g_iconst (n := 15) (0 : Int32) C dX7_refresh_14 (by decide) rfl ?_
    refine gp_X7_31 (n := 18) C E (ox_142 hZ) dX7_refresh_15 rfl (fun M2 eM2 => ?_)
    replace h := h M2 eM2
    refine g_iconst (n := 19) (0 : Int32) C dX7_refresh_18 (by decide) rfl ?_
    refine g_istore_n (n := 20) (i := 1) C dX7_refresh_19 rfl (Nat.le_of_ble_eq_true rfl) rfl rfl (fun z3 ez3 => ?_)
    replace h := h z3 ez3
    exact g_sub [1, 0] rfl h
  · replace h := h.2 c
    exact g_vret C hr hQ dX7_refresh_7 h
