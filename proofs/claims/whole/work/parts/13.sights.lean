def B_Sightings_add_i (p1 : Int32) (p2 : Int32) (post : Int32 → Mem → Prop)  (M : Mem)  : Prop :=
  ((((M 142 6) < 0) → post (0 : Int32) M) ∧ ((¬ (M 142 6) < 0) → ((((M 142 6) < (7 : Int32)) → vp_in (M 142 6) 7 ∧ (∀ M1 : Mem, M1 = mset M 143 ((M 142 6)).toNatClampNeg p1 → vp_in (M1 142 6) 7 ∧ (∀ M2 : Mem, M2 = mset M1 144 ((M1 142 6)).toNatClampNeg p2 → ∀ M3 : Mem, M3 = mset M2 142 6 ((M2 142 6) + (1 : Int32)) → ∀ M4 : Mem, M4 = mset M3 142 8 (1 : Int32) → post (1 : Int32) M4))) ∧ ((¬ (M 142 6) < (7 : Int32)) → post (0 : Int32) M))))
def P_Sightings_add (M : Mem) (p1 : Int32) (p2 : Int32) (post : Int32 → Mem → Prop) : Prop := B_Sightings_add_i p1 p2 post M
set_option maxHeartbeats 4000000 in
set_option maxRecDepth 100000 in
theorem c_Sightings_add {Z : ZT} (hZ : IsX Z) (l : Launch) (p1 : Int32) (p2 : Int32) (M : Mem) (post : Int32 → Mem → Prop) (h : P_Sightings_add M p1 p2 post) : CtI Z l yX7_add cX7_add 3 (some .boolean) 0 0 [.ref (zb Z + 142), .int p1, .int p2] M post := by
  refine ctI (own := RX7) rfl (by decide) (Nat.le_of_ble_eq_true rfl) (fun X C E hr hQ => ?_)
  unfold P_Sightings_add at h
  unfold B_Sightings_add_i at h
  show GS Z X 0 [(0, .ref (zb Z + 142)), (1, .int p1), (2, .int p2)] [] M
  refine g_aload_n (n := 1) (i := 0) C dX7_add_0 rfl 0 rfl rfl ?_
  refine gf_X7_27 (n := 4) C E (ox_142 hZ) dX7_add_1 rfl ?_
  refine g_if_lt (n := 7) (tgt := 16) C dX7_add_4 (by decide) rfl (fun c => ?_) (fun c => ?_)
  · replace h := h.1 c
    refine g_iconst (n := 17) (0 : Int32) C dX7_add_16 (by decide) rfl ?_
    exact g_zret C hr hQ dX7_add_17 rfl h
  · replace h := h.2 c
    refine g_aload_n (n := 8) (i := 0) C dX7_add_7 rfl 0 rfl rfl ?_
    refine gf_X7_27 (n := 11) C E (ox_142 hZ) dX7_add_8 rfl ?_
    refine g_bipush (n := 13) (7 : Int32) C dX7_add_11 (by decide) rfl ?_
    refine g_icmp_lt (n := 16) (tgt := 18) C dX7_add_13 (by decide) rfl (fun c => ?_) (fun c => ?_)
    · replace h := h.1 c
      refine g_aload_n (n := 19) (i := 0) C dX7_add_18 rfl 0 rfl rfl ?_
      refine gf_X7_9 (n := 22) 143 C E (ox_142 hZ) rfl dX7_add_19 rfl ?_
      refine g_aload_n (n := 23) (i := 0) C dX7_add_22 rfl 0 rfl rfl ?_
      refine gf_X7_27 (n := 26) C E (ox_142 hZ) dX7_add_23 rfl ?_
      refine g_iload_n (n := 27) (i := 1) C dX7_add_26 rfl 1 rfl rfl ?_
      refine g_iast (n := 28) C E (ox_143 hZ) h.1 dX7_add_27 rfl (fun M1 eM1 => ?_)
      replace h := h.2 M1 eM1
      refine g_aload_n (n := 29) (i := 0) C dX7_add_28 rfl 0 rfl rfl ?_
      refine gf_X7_15 (n := 32) 144 C E (ox_142 hZ) rfl dX7_add_29 rfl ?_
      refine g_aload_n (n := 33) (i := 0) C dX7_add_32 rfl 0 rfl rfl ?_
      refine gf_X7_27 (n := 36) C E (ox_142 hZ) dX7_add_33 rfl ?_
      refine g_iload_n (n := 37) (i := 2) C dX7_add_36 rfl 2 rfl rfl ?_
      refine g_iast (n := 38) C E (ox_144 hZ) h.1 dX7_add_37 rfl (fun M2 eM2 => ?_)
      replace h := h.2 M2 eM2
      refine g_aload_n (n := 39) (i := 0) C dX7_add_38 rfl 0 rfl rfl ?_
      refine g_dup (n := 40) C dX7_add_39 rfl rfl ?_
      refine gf_X7_27 (n := 43) C E (ox_142 hZ) dX7_add_40 rfl ?_
      refine g_iconst (n := 44) (1 : Int32) C dX7_add_43 (by decide) rfl ?_
      refine g_iadd (n := 45) C dX7_add_44 rfl ?_
      refine gp_X7_27 (n := 48) C E (ox_142 hZ) dX7_add_45 rfl (fun M3 eM3 => ?_)
      replace h := h M3 eM3
      refine g_aload_n (n := 49) (i := 0) C dX7_add_48 rfl 0 rfl rfl ?_
      refine g_iconst (n := 50) (1 : Int32) C dX7_add_49 (by decide) rfl ?_
      refine gp_X7_34 (n := 53) C E (ox_142 hZ) rfl rfl dX7_add_50 rfl (fun M4 eM4 => ?_)
      replace h := h M4 eM4
      refine g_iconst (n := 54) (1 : Int32) C dX7_add_53 (by decide) rfl ?_
      exact g_zret C hr hQ dX7_add_54 rfl h
    · replace h := h.2 c
      refine g_iconst (n := 17) (0 : Int32) C dX7_add_16 (by decide) rfl ?_
      exact g_zret C hr hQ dX7_add_17 rfl h
def B_Sightings_clear_i  (post : Mem → Prop)  (M : Mem)  : Prop :=
  ∀ M1 : Mem, M1 = mset M 142 6 (0 : Int32) → ∀ M2 : Mem, M2 = mset M1 142 8 (1 : Int32) → post M2
def P_Sightings_clear (M : Mem)  (post : Mem → Prop) : Prop := B_Sightings_clear_i  post M
set_option maxHeartbeats 4000000 in
set_option maxRecDepth 100000 in
theorem c_Sightings_clear {Z : ZT} (hZ : IsX Z) (l : Launch)  (M : Mem) (post : Mem → Prop) (h : P_Sightings_clear M  post) : CtV Z l yX7_clear cX7_clear 1 none 0 0 [.ref (zb Z + 142)] M post := by
  refine ctV (own := RX7) rfl (by decide) (Nat.le_of_ble_eq_true rfl) (fun X C E hr hQ => ?_)
  unfold P_Sightings_clear at h
  unfold B_Sightings_clear_i at h
  show GS Z X 0 [(0, .ref (zb Z + 142))] [] M
  refine g_aload_n (n := 1) (i := 0) C dX7_clear_0 rfl 0 rfl rfl ?_
  refine g_iconst (n := 2) (0 : Int32) C dX7_clear_1 (by decide) rfl ?_
  refine gp_X7_27 (n := 5) C E (ox_142 hZ) dX7_clear_2 rfl (fun M1 eM1 => ?_)
  replace h := h M1 eM1
  refine g_aload_n (n := 6) (i := 0) C dX7_clear_5 rfl 0 rfl rfl ?_
  refine g_iconst (n := 7) (1 : Int32) C dX7_clear_6 (by decide) rfl ?_
  refine gp_X7_34 (n := 10) C E (ox_142 hZ) rfl rfl dX7_clear_7 rfl (fun M2 eM2 => ?_)
  replace h := h M2 eM2
  exact g_vret C hr hQ dX7_clear_10 h
def B_Sightings_firstOrderAt_i (p1 : Int32) (post : Int32 → Mem → Prop)  (M : Mem)  : Prop :=
  ((((M 142 7) ≤ 0) → post (-4 : Int32) M) ∧ ((¬ (M 142 7) ≤ 0) → P_Plan_has M 4 p1 (fun (r2 : Int32) (M1 : Mem) => (((r2 = 0) → post (-4 : Int32) M1) ∧ ((¬ r2 = 0) → vp_in p1 7 ∧ (post (M1 146 (p1).toNatClampNeg) M1))))))
def P_Sightings_firstOrderAt (M : Mem) (p1 : Int32) (post : Int32 → Mem → Prop) : Prop := B_Sightings_firstOrderAt_i p1 post M
set_option maxHeartbeats 4000000 in
set_option maxRecDepth 100000 in
theorem c_Sightings_firstOrderAt {Z : ZT} (hZ : IsX Z) (l : Launch) (p1 : Int32) (M : Mem) (post : Int32 → Mem → Prop) (h : P_Sightings_firstOrderAt M p1 post) : CtI Z l yX7_firstOrderAt cX7_firstOrderAt 2 (some .int) 1 21 [.ref (zb Z + 142), .int p1] M post := by
  refine ctI (own := RX7) rfl (by decide) (Nat.le_of_ble_eq_true rfl) (fun X C E hr hQ => ?_)
  unfold P_Sightings_firstOrderAt at h
  unfold B_Sightings_firstOrderAt_i at h
  show GS Z X 0 [(0, .ref (zb Z + 142)), (1, .int p1)] [] M
  refine g_aload_n (n := 1) (i := 0) C dX7_firstOrderAt_0 rfl 0 rfl rfl ?_
  refine gf_X7_31 (n := 4) C E (ox_142 hZ) dX7_firstOrderAt_1 rfl ?_
  refine g_if_le (n := 7) (tgt := 27) C dX7_firstOrderAt_4 (by decide) rfl (fun c => ?_) (fun c => ?_)
  · replace h := h.1 c
    refine g_bipush (n := 29) (-4 : Int32) C dX7_firstOrderAt_27 (by decide) rfl ?_
    exact g_iret C hr hQ dX7_firstOrderAt_29 h
  · replace h := h.2 c
    refine g_aload_n (n := 8) (i := 0) C dX7_firstOrderAt_7 rfl 0 rfl rfl ?_
    refine gf_X7_38 (n := 11) C E (ox_142 hZ) dX7_firstOrderAt_8 rfl ?_
    refine g_iload_n (n := 12) (i := 1) C dX7_firstOrderAt_11 rfl 1 rfl rfl ?_
    refine g_callNi (n := 15) (kd := 4) C E (c_Plan_has hZ _ 4 (by unfold Hp; decide) p1 M _ h) yi_X4_has wn_725 rfl (ox_4 hZ) (by decide) (Nat.le_of_ble_eq_true rfl) dX7_firstOrderAt_12 rfl rfl (fun r2 M1 h => ?_)
    refine g_if_eq (n := 18) (tgt := 27) C dX7_firstOrderAt_15 (by decide) rfl (fun c => ?_) (fun c => ?_)
    · replace h := h.1 c
      refine g_bipush (n := 29) (-4 : Int32) C dX7_firstOrderAt_27 (by decide) rfl ?_
      exact g_iret C hr hQ dX7_firstOrderAt_29 h
    · replace h := h.2 c
      refine g_aload_n (n := 19) (i := 0) C dX7_firstOrderAt_18 rfl 0 rfl rfl ?_
      refine gf_X7_21 (n := 22) 146 C E (ox_142 hZ) rfl dX7_firstOrderAt_19 rfl ?_
      refine g_iload_n (n := 23) (i := 1) C dX7_firstOrderAt_22 rfl 1 rfl rfl ?_
      refine g_iald (n := 24) C E (ox_146 hZ) h.1 dX7_firstOrderAt_23 rfl ?_
      replace h := h.2
      refine g_goto (tgt := 29) C dX7_firstOrderAt_24 (by decide) ?_
      exact g_iret C hr hQ dX7_firstOrderAt_29 h
def B_Sightings_payOut_i (p1 : Int32) (p2 : Int32) (p3 : Int32) (post : Mem → Prop)  (M : Mem)  : Prop :=
  P_Plan_has M 4 p1 (fun (r2 : Int32) (M1 : Mem) => (((¬ r2 = 0) → vp_in p1 7 ∧ (vp_in p1 7 ∧ (∀ M3 : Mem, M3 = mset M1 147 (p1).toNatClampNeg ((M1 147 (p1).toNatClampNeg) + p3) → P_Plan_has M3 4 p2 (fun (r5 : Int32) (M4 : Mem) => (((r5 = 0) → post M4) ∧ ((¬ r5 = 0) → vp_in p1 7 ∧ (∀ z6 : Int32, z6 = ((M4 147 (p1).toNatClampNeg) / (2 : Int32)) → vp_in p1 7 ∧ (vp_in p1 7 ∧ (∀ M7 : Mem, M7 = mset M4 147 (p1).toNatClampNeg ((M4 147 (p1).toNatClampNeg) - z6) → vp_in p2 7 ∧ (vp_in p2 7 ∧ (∀ M8 : Mem, M8 = mset M7 147 (p2).toNatClampNeg ((M7 147 (p2).toNatClampNeg) + z6) → post M8))))))))))) ∧ ((r2 = 0) → post M1)))
def P_Sightings_payOut (M : Mem) (p1 : Int32) (p2 : Int32) (p3 : Int32) (post : Mem → Prop) : Prop := B_Sightings_payOut_i p1 p2 p3 post M
set_option maxHeartbeats 4000000 in
set_option maxRecDepth 100000 in
theorem c_Sightings_payOut {Z : ZT} (hZ : IsX Z) (l : Launch) (p1 : Int32) (p2 : Int32) (p3 : Int32) (M : Mem) (post : Mem → Prop) (h : P_Sightings_payOut M p1 p2 p3 post) : CtV Z l yX7_payOut cX7_payOut 5 none 1 21 [.ref (zb Z + 142), .int p1, .int p2, .int p3] M post := by
  refine ctV (own := RX7) rfl (by decide) (Nat.le_of_ble_eq_true rfl) (fun X C E hr hQ => ?_)
  unfold P_Sightings_payOut at h
  unfold B_Sightings_payOut_i at h
  show GS Z X 0 [(0, .ref (zb Z + 142)), (1, .int p1), (2, .int p2), (3, .int p3)] [] M
  refine g_aload_n (n := 1) (i := 0) C dX7_payOut_0 rfl 0 rfl rfl ?_
  refine gf_X7_38 (n := 4) C E (ox_142 hZ) dX7_payOut_1 rfl ?_
  refine g_iload_n (n := 5) (i := 1) C dX7_payOut_4 rfl 1 rfl rfl ?_
  refine g_callNi (n := 8) (kd := 4) C E (c_Plan_has hZ _ 4 (by unfold Hp; decide) p1 M _ h) yi_X4_has wn_725 rfl (ox_4 hZ) (by decide) (Nat.le_of_ble_eq_true rfl) dX7_payOut_5 rfl rfl (fun r2 M1 h => ?_)
  refine g_if_ne (n := 11) (tgt := 12) C dX7_payOut_8 (by decide) rfl (fun c => ?_) (fun c => ?_)
  · replace h := h.1 c
    refine g_aload_n (n := 13) (i := 0) C dX7_payOut_12 rfl 0 rfl rfl ?_
    refine gf_X7_24 (n := 16) 147 C E (ox_142 hZ) rfl dX7_payOut_13 rfl ?_
    refine g_iload_n (n := 17) (i := 1) C dX7_payOut_16 rfl 1 rfl rfl ?_
    refine g_dup2 (n := 18) C dX7_payOut_17 rfl rfl rfl ?_
    refine g_iald (n := 19) C E (ox_147 hZ) h.1 dX7_payOut_18 rfl ?_
    replace h := h.2
    refine g_iload_n (n := 20) (i := 3) C dX7_payOut_19 rfl 3 rfl rfl ?_
    refine g_iadd (n := 21) C dX7_payOut_20 rfl ?_
    refine g_iast (n := 22) C E (ox_147 hZ) h.1 dX7_payOut_21 rfl (fun M3 eM3 => ?_)
    replace h := h.2 M3 eM3
    refine g_aload_n (n := 23) (i := 0) C dX7_payOut_22 rfl 0 rfl rfl ?_
    refine gf_X7_38 (n := 26) C E (ox_142 hZ) dX7_payOut_23 rfl ?_
    refine g_iload_n (n := 27) (i := 2) C dX7_payOut_26 rfl 2 rfl rfl ?_
    refine g_callNi (n := 30) (kd := 4) C E (c_Plan_has hZ _ 4 (by unfold Hp; decide) p2 M3 _ h) yi_X4_has wn_725 rfl (ox_4 hZ) (by decide) (Nat.le_of_ble_eq_true rfl) dX7_payOut_27 rfl rfl (fun r5 M4 h => ?_)
    refine g_if_eq (n := 33) (tgt := 65) C dX7_payOut_30 (by decide) rfl (fun c => ?_) (fun c => ?_)
    · replace h := h.1 c
      exact g_vret C hr hQ dX7_payOut_65 h
    · replace h := h.2 c
      refine g_aload_n (n := 34) (i := 0) C dX7_payOut_33 rfl 0 rfl rfl ?_
      refine gf_X7_24 (n := 37) 147 C E (ox_142 hZ) rfl dX7_payOut_34 rfl ?_
      refine g_iload_n (n := 38) (i := 1) C dX7_payOut_37 rfl 1 rfl rfl ?_
      refine g_iald (n := 39) C E (ox_147 hZ) h.1 dX7_payOut_38 rfl ?_
      replace h := h.2
      refine g_iconst (n := 40) (2 : Int32) C dX7_payOut_39 (by decide) rfl ?_
      refine g_idiv (n := 41) C dX7_payOut_40 (by decide) rfl ?_
      refine g_istore (n := 43) (i := 4) C dX7_payOut_41 (Nat.le_of_ble_eq_true rfl) rfl rfl (fun z6 ez6 => ?_)
      replace h := h z6 ez6
      refine g_aload_n (n := 44) (i := 0) C dX7_payOut_43 rfl 1 rfl rfl ?_
      refine gf_X7_24 (n := 47) 147 C E (ox_142 hZ) rfl dX7_payOut_44 rfl ?_
      refine g_iload_n (n := 48) (i := 1) C dX7_payOut_47 rfl 2 rfl rfl ?_
      refine g_dup2 (n := 49) C dX7_payOut_48 rfl rfl rfl ?_
      refine g_iald (n := 50) C E (ox_147 hZ) h.1 dX7_payOut_49 rfl ?_
      replace h := h.2
      refine g_iload (n := 52) C dX7_payOut_50 0 rfl rfl ?_
      refine g_isub (n := 53) C dX7_payOut_52 rfl ?_
      refine g_iast (n := 54) C E (ox_147 hZ) h.1 dX7_payOut_53 rfl (fun M7 eM7 => ?_)
      replace h := h.2 M7 eM7
      refine g_aload_n (n := 55) (i := 0) C dX7_payOut_54 rfl 1 rfl rfl ?_
      refine gf_X7_24 (n := 58) 147 C E (ox_142 hZ) rfl dX7_payOut_55 rfl ?_
      refine g_iload_n (n := 59) (i := 2) C dX7_payOut_58 rfl 3 rfl rfl ?_
      refine g_dup2 (n := 60) C dX7_payOut_59 rfl rfl rfl ?_
      refine g_iald (n := 61) C E (ox_147 hZ) h.1 dX7_payOut_60 rfl ?_
      replace h := h.2
      refine g_iload (n := 63) C dX7_payOut_61 0 rfl rfl ?_
      refine g_iadd (n := 64) C dX7_payOut_63 rfl ?_
      refine g_iast (n := 65) C E (ox_147 hZ) h.1 dX7_payOut_64 rfl (fun M8 eM8 => ?_)
      replace h := h.2 M8 eM8
      exact g_vret C hr hQ dX7_payOut_65 h
  · replace h := h.2 c
    exact g_vret C hr hQ dX7_payOut_11 h
def B_Sightings_comeInOrder_i  (post : Mem → Prop) (R2 : Mem → Int32 → Prop) (R43 : Mem → Int32 → Int32 → Int32 → Int32 → Prop) (M : Mem)  : Prop :=
  ∀ z1 : Int32, z1 = (0 : Int32) → (R2 M z1)
def B_Sightings_comeInOrder_2  (post : Mem → Prop) (R2 : Mem → Int32 → Prop) (R43 : Mem → Int32 → Int32 → Int32 → Int32 → Prop) (M : Mem) (x2_1 : Int32) : Prop :=
  ((((7 : Int32) ≤ x2_1) → ∀ z2 : Int32, z2 = (-4 : Int32) → ∀ z3 : Int32, z3 = (-4 : Int32) → ∀ z4 : Int32, z4 = (0 : Int32) → ∀ z5 : Int32, z5 = (0 : Int32) → (R43 M z2 z3 z4 z5)) ∧ ((¬ (7 : Int32) ≤ x2_1) → ((((M 4 6) ≤ x2_1) → ∀ z6 : Int32, z6 = (-4 : Int32) → ∀ z7 : Int32, z7 = (-4 : Int32) → ∀ z8 : Int32, z8 = (0 : Int32) → ∀ z9 : Int32, z9 = (0 : Int32) → (R43 M z6 z7 z8 z9)) ∧ ((¬ (M 4 6) ≤ x2_1) → vp_in x2_1 7 ∧ (∀ M10 : Mem, M10 = mset M 147 (x2_1).toNatClampNeg (0 : Int32) → ∀ z11 : Int32, z11 = x2_1 + (1 : Int32) → (R2 M10 z11))))))
def B_Sightings_comeInOrder_43  (post : Mem → Prop) (R2 : Mem → Int32 → Prop) (R43 : Mem → Int32 → Int32 → Int32 → Int32 → Prop) (M : Mem) (x43_1 : Int32) (x43_2 : Int32) (x43_3 : Int32) (x43_4 : Int32) : Prop :=
  ((((7 : Int32) ≤ x43_4) → post M) ∧ ((¬ (7 : Int32) ≤ x43_4) → ((((M 4 6) ≤ x43_4) → post M) ∧ ((¬ (M 4 6) ≤ x43_4) → vp_in x43_4 7 ∧ (∀ z12 : Int32, z12 = (M 145 (x43_4).toNatClampNeg) → P_Plan_has M 4 z12 (fun (r14 : Int32) (M13 : Mem) => (((r14 = 0) → ∀ z15 : Int32, z15 = x43_4 + (1 : Int32) → (R43 M13 x43_1 x43_2 x43_3 z15)) ∧ ((¬ r14 = 0) → vp_in z12 7 ∧ (∀ z16 : Int32, z16 = (x43_3 + (M13 8 (z12).toNatClampNeg)) → vp_in z12 7 ∧ (((((M13 5 (z12).toNatClampNeg) = (2 : Int32)) → ∀ z17 : Int32, z17 = x43_4 + (1 : Int32) → (R43 M13 x43_1 x43_2 z16 z17)) ∧ ((¬ (M13 5 (z12).toNatClampNeg) = (2 : Int32)) → P_Sightings_payOut M13 x43_1 x43_2 z16 (fun (M18 : Mem) => ∀ z19 : Int32, z19 = x43_1 → ∀ z20 : Int32, z20 = z12 → ∀ z21 : Int32, z21 = (0 : Int32) → ∀ z22 : Int32, z22 = x43_4 + (1 : Int32) → (R43 M18 z20 z19 z21 z22))))))))))))))
def P_Sightings_comeInOrder (M : Mem)  (post : Mem → Prop) : Prop :=
  ∀ (R2 : Mem → Int32 → Prop) (R43 : Mem → Int32 → Int32 → Int32 → Int32 → Prop), (∀ (M : Mem) (x2_1 : Int32), B_Sightings_comeInOrder_2  post R2 R43 M x2_1 → R2 M x2_1) → (∀ (M : Mem) (x43_1 : Int32) (x43_2 : Int32) (x43_3 : Int32) (x43_4 : Int32), B_Sightings_comeInOrder_43  post R2 R43 M x43_1 x43_2 x43_3 x43_4 → R43 M x43_1 x43_2 x43_3 x43_4) → B_Sightings_comeInOrder_i  post R2 R43 M
set_option maxHeartbeats 4000000 in
set_option maxRecDepth 100000 in
theorem c_Sightings_comeInOrder {Z : ZT} (hZ : IsX Z) (l : Launch)  (M : Mem) (post : Mem → Prop) (h : P_Sightings_comeInOrder M  post) : CtV Z l yX7_comeInOrder cX7_comeInOrder 6 none 2 45 [.ref (zb Z + 142)] M post := by
  refine ctV (own := RX7) rfl (by decide) (Nat.le_of_ble_eq_true rfl) (fun X C E hr hQ => ?_)
  have s2 : ∀ (M : Mem) (x2_1 : Int32), B_Sightings_comeInOrder_2  post (fun (M : Mem) (x2_1 : Int32) => GS Z X 2 [(0, .ref (zb Z + 142)), (1, .int x2_1)] [] M) (fun (M : Mem) (x43_1 : Int32) (x43_2 : Int32) (x43_3 : Int32) (x43_4 : Int32) => GS Z X 43 [(0, .ref (zb Z + 142)), (1, .int x43_1), (2, .int x43_2), (3, .int x43_3), (4, .int x43_4)] [] M) M x2_1 → GS Z X 2 [(0, .ref (zb Z + 142)), (1, .int x2_1)] [] M := by
    intro M x2_1 h
    unfold B_Sightings_comeInOrder_2 at h
    refine g_iload_n (n := 3) (i := 1) C dX7_comeInOrder_2 rfl 1 rfl rfl ?_
    refine g_bipush (n := 5) (7 : Int32) C dX7_comeInOrder_3 (by decide) rfl ?_
    refine g_icmp_ge (n := 8) (tgt := 32) C dX7_comeInOrder_5 (by decide) rfl (fun c => ?_) (fun c => ?_)
    · replace h := h.1 c
      refine g_bipush (n := 34) (-4 : Int32) C dX7_comeInOrder_32 (by decide) rfl ?_
      refine g_istore_n (n := 35) (i := 1) C dX7_comeInOrder_34 rfl (Nat.le_of_ble_eq_true rfl) rfl rfl (fun z2 ez2 => ?_)
      replace h := h z2 ez2
      refine g_bipush (n := 37) (-4 : Int32) C dX7_comeInOrder_35 (by decide) rfl ?_
      refine g_istore_n (n := 38) (i := 2) C dX7_comeInOrder_37 rfl (Nat.le_of_ble_eq_true rfl) rfl rfl (fun z3 ez3 => ?_)
      replace h := h z3 ez3
      refine g_iconst (n := 39) (0 : Int32) C dX7_comeInOrder_38 (by decide) rfl ?_
      refine g_istore_n (n := 40) (i := 3) C dX7_comeInOrder_39 rfl (Nat.le_of_ble_eq_true rfl) rfl rfl (fun z4 ez4 => ?_)
      replace h := h z4 ez4
      refine g_iconst (n := 41) (0 : Int32) C dX7_comeInOrder_40 (by decide) rfl ?_
      refine g_istore (n := 43) (i := 4) C dX7_comeInOrder_41 (Nat.le_of_ble_eq_true rfl) rfl rfl (fun z5 ez5 => ?_)
      replace h := h z5 ez5
      exact g_sub [4, 3, 2, 1, 0] rfl h
    · replace h := h.2 c
      refine g_iload_n (n := 9) (i := 1) C dX7_comeInOrder_8 rfl 1 rfl rfl ?_
      refine g_aload_n (n := 10) (i := 0) C dX7_comeInOrder_9 rfl 0 rfl rfl ?_
      refine gf_X7_38 (n := 13) C E (ox_142 hZ) dX7_comeInOrder_10 rfl ?_
      refine gf_X7_48 (n := 16) C E (ox_4 hZ) dX7_comeInOrder_13 rfl ?_
      refine g_icmp_ge (n := 19) (tgt := 32) C dX7_comeInOrder_16 (by decide) rfl (fun c => ?_) (fun c => ?_)
      · replace h := h.1 c
        refine g_bipush (n := 34) (-4 : Int32) C dX7_comeInOrder_32 (by decide) rfl ?_
        refine g_istore_n (n := 35) (i := 1) C dX7_comeInOrder_34 rfl (Nat.le_of_ble_eq_true rfl) rfl rfl (fun z6 ez6 => ?_)
        replace h := h z6 ez6
        refine g_bipush (n := 37) (-4 : Int32) C dX7_comeInOrder_35 (by decide) rfl ?_
        refine g_istore_n (n := 38) (i := 2) C dX7_comeInOrder_37 rfl (Nat.le_of_ble_eq_true rfl) rfl rfl (fun z7 ez7 => ?_)
        replace h := h z7 ez7
        refine g_iconst (n := 39) (0 : Int32) C dX7_comeInOrder_38 (by decide) rfl ?_
        refine g_istore_n (n := 40) (i := 3) C dX7_comeInOrder_39 rfl (Nat.le_of_ble_eq_true rfl) rfl rfl (fun z8 ez8 => ?_)
        replace h := h z8 ez8
        refine g_iconst (n := 41) (0 : Int32) C dX7_comeInOrder_40 (by decide) rfl ?_
        refine g_istore (n := 43) (i := 4) C dX7_comeInOrder_41 (Nat.le_of_ble_eq_true rfl) rfl rfl (fun z9 ez9 => ?_)
        replace h := h z9 ez9
        exact g_sub [4, 3, 2, 1, 0] rfl h
      · replace h := h.2 c
        refine g_aload_n (n := 20) (i := 0) C dX7_comeInOrder_19 rfl 0 rfl rfl ?_
        refine gf_X7_24 (n := 23) 147 C E (ox_142 hZ) rfl dX7_comeInOrder_20 rfl ?_
        refine g_iload_n (n := 24) (i := 1) C dX7_comeInOrder_23 rfl 1 rfl rfl ?_
        refine g_iconst (n := 25) (0 : Int32) C dX7_comeInOrder_24 (by decide) rfl ?_
        refine g_iast (n := 26) C E (ox_147 hZ) h.1 dX7_comeInOrder_25 rfl (fun M10 eM10 => ?_)
        replace h := h.2 M10 eM10
        refine g_iinc (n := 29) (v := (1 : Int32)) C dX7_comeInOrder_26 1 rfl (by decide) (Nat.le_of_ble_eq_true rfl) rfl rfl (fun z11 ez11 => ?_)
        replace h := h z11 ez11
        refine g_goto (tgt := 2) C dX7_comeInOrder_29 (by decide) ?_
        exact g_sub [1, 0] rfl h
  have s43 : ∀ (M : Mem) (x43_1 : Int32) (x43_2 : Int32) (x43_3 : Int32) (x43_4 : Int32), B_Sightings_comeInOrder_43  post (fun (M : Mem) (x2_1 : Int32) => GS Z X 2 [(0, .ref (zb Z + 142)), (1, .int x2_1)] [] M) (fun (M : Mem) (x43_1 : Int32) (x43_2 : Int32) (x43_3 : Int32) (x43_4 : Int32) => GS Z X 43 [(0, .ref (zb Z + 142)), (1, .int x43_1), (2, .int x43_2), (3, .int x43_3), (4, .int x43_4)] [] M) M x43_1 x43_2 x43_3 x43_4 → GS Z X 43 [(0, .ref (zb Z + 142)), (1, .int x43_1), (2, .int x43_2), (3, .int x43_3), (4, .int x43_4)] [] M := by
    intro M x43_1 x43_2 x43_3 x43_4 h
    unfold B_Sightings_comeInOrder_43 at h
    refine g_iload (n := 45) C dX7_comeInOrder_43 4 rfl rfl ?_
    refine g_bipush (n := 47) (7 : Int32) C dX7_comeInOrder_45 (by decide) rfl ?_
    refine g_icmp_ge (n := 50) (tgt := 130) C dX7_comeInOrder_47 (by decide) rfl (fun c => ?_) (fun c => ?_)
    · replace h := h.1 c
      exact g_vret C hr hQ dX7_comeInOrder_130 h
    · replace h := h.2 c
      refine g_iload (n := 52) C dX7_comeInOrder_50 4 rfl rfl ?_
      refine g_aload_n (n := 53) (i := 0) C dX7_comeInOrder_52 rfl 0 rfl rfl ?_
      refine gf_X7_38 (n := 56) C E (ox_142 hZ) dX7_comeInOrder_53 rfl ?_
      refine gf_X7_48 (n := 59) C E (ox_4 hZ) dX7_comeInOrder_56 rfl ?_
      refine g_icmp_ge (n := 62) (tgt := 130) C dX7_comeInOrder_59 (by decide) rfl (fun c => ?_) (fun c => ?_)
      · replace h := h.1 c
        exact g_vret C hr hQ dX7_comeInOrder_130 h
      · replace h := h.2 c
        refine g_aload_n (n := 63) (i := 0) C dX7_comeInOrder_62 rfl 0 rfl rfl ?_
        refine gf_X7_18 (n := 66) 145 C E (ox_142 hZ) rfl dX7_comeInOrder_63 rfl ?_
        refine g_iload (n := 68) C dX7_comeInOrder_66 4 rfl rfl ?_
        refine g_iald (n := 69) C E (ox_145 hZ) h.1 dX7_comeInOrder_68 rfl ?_
        replace h := h.2
        refine g_istore (n := 71) (i := 5) C dX7_comeInOrder_69 (Nat.le_of_ble_eq_true rfl) rfl rfl (fun z12 ez12 => ?_)
        replace h := h z12 ez12
        refine g_aload_n (n := 72) (i := 0) C dX7_comeInOrder_71 rfl 1 rfl rfl ?_
        refine gf_X7_38 (n := 75) C E (ox_142 hZ) dX7_comeInOrder_72 rfl ?_
        refine g_iload (n := 77) C dX7_comeInOrder_75 0 rfl rfl ?_
        refine g_callNi (n := 80) (kd := 4) C E (c_Plan_has hZ _ 4 (by unfold Hp; decide) z12 M _ h) yi_X4_has wn_725 rfl (ox_4 hZ) (by decide) (Nat.le_of_ble_eq_true rfl) dX7_comeInOrder_77 rfl rfl (fun r14 M13 h => ?_)
        refine g_if_eq (n := 83) (tgt := 124) C dX7_comeInOrder_80 (by decide) rfl (fun c => ?_) (fun c => ?_)
        · replace h := h.1 c
          refine g_iinc (n := 127) (v := (1 : Int32)) C dX7_comeInOrder_124 5 rfl (by decide) (Nat.le_of_ble_eq_true rfl) rfl rfl (fun z15 ez15 => ?_)
          replace h := h z15 ez15
          refine g_goto (tgt := 43) C dX7_comeInOrder_127 (by decide) ?_
          exact g_sub [2, 3, 4, 5, 0] rfl h
        · replace h := h.2 c
          refine g_iload_n (n := 84) (i := 3) C dX7_comeInOrder_83 rfl 4 rfl rfl ?_
          refine g_aload_n (n := 85) (i := 0) C dX7_comeInOrder_84 rfl 1 rfl rfl ?_
          refine gf_X7_38 (n := 88) C E (ox_142 hZ) dX7_comeInOrder_85 rfl ?_
          refine gf_X7_63 (n := 91) 8 C E (ox_4 hZ) rfl dX7_comeInOrder_88 rfl ?_
          refine g_iload (n := 93) C dX7_comeInOrder_91 0 rfl rfl ?_
          refine g_iald (n := 94) C E (ox_8 hZ) h.1 dX7_comeInOrder_93 rfl ?_
          replace h := h.2
          refine g_iadd (n := 95) C dX7_comeInOrder_94 rfl ?_
          refine g_istore_n (n := 96) (i := 3) C dX7_comeInOrder_95 rfl (Nat.le_of_ble_eq_true rfl) rfl rfl (fun z16 ez16 => ?_)
          replace h := h z16 ez16
          refine g_aload_n (n := 97) (i := 0) C dX7_comeInOrder_96 rfl 2 rfl rfl ?_
          refine gf_X7_38 (n := 100) C E (ox_142 hZ) dX7_comeInOrder_97 rfl ?_
          refine gf_X7_66 (n := 103) 5 C E (ox_4 hZ) rfl dX7_comeInOrder_100 rfl ?_
          refine g_iload (n := 105) C dX7_comeInOrder_103 1 rfl rfl ?_
          refine g_iald (n := 106) C E (ox_5 hZ) h.1 dX7_comeInOrder_105 rfl ?_
          replace h := h.2
          refine g_iconst (n := 107) (2 : Int32) C dX7_comeInOrder_106 (by decide) rfl ?_
          refine g_icmp_eq (n := 110) (tgt := 124) C dX7_comeInOrder_107 (by decide) rfl (fun c => ?_) (fun c => ?_)
          · replace h := h.1 c
            refine g_iinc (n := 127) (v := (1 : Int32)) C dX7_comeInOrder_124 5 rfl (by decide) (Nat.le_of_ble_eq_true rfl) rfl rfl (fun z17 ez17 => ?_)
            replace h := h z17 ez17
            refine g_goto (tgt := 43) C dX7_comeInOrder_127 (by decide) ?_
            exact g_sub [3, 4, 5, 1, 0] rfl h
          · replace h := h.2 c
            refine g_aload_n (n := 111) (i := 0) C dX7_comeInOrder_110 rfl 2 rfl rfl ?_
            refine g_iload_n (n := 112) (i := 1) C dX7_comeInOrder_111 rfl 3 rfl rfl ?_
            refine g_iload_n (n := 113) (i := 2) C dX7_comeInOrder_112 rfl 4 rfl rfl ?_
            refine g_iload_n (n := 114) (i := 3) C dX7_comeInOrder_113 rfl 0 rfl rfl ?_
            refine g_callVv (n := 117) (kd := 7) C E (c_Sightings_payOut hZ _ x43_1 x43_2 z16 M13 _ h) yi_X7_payOut wd_726 rfl (ox_142 hZ) (by decide) (Nat.le_of_ble_eq_true rfl) dX7_comeInOrder_114 rfl rfl (fun M18 h => ?_)
            refine g_iload_n (n := 118) (i := 1) C dX7_comeInOrder_117 rfl 3 rfl rfl ?_
            refine g_istore_n (n := 119) (i := 2) C dX7_comeInOrder_118 rfl (Nat.le_of_ble_eq_true rfl) rfl rfl (fun z19 ez19 => ?_)
            replace h := h z19 ez19
            refine g_iload (n := 121) C dX7_comeInOrder_119 2 rfl rfl ?_
            refine g_istore_n (n := 122) (i := 1) C dX7_comeInOrder_121 rfl (Nat.le_of_ble_eq_true rfl) rfl rfl (fun z20 ez20 => ?_)
            replace h := h z20 ez20
            refine g_iconst (n := 123) (0 : Int32) C dX7_comeInOrder_122 (by decide) rfl ?_
            refine g_istore_n (n := 124) (i := 3) C dX7_comeInOrder_123 rfl (Nat.le_of_ble_eq_true rfl) rfl rfl (fun z21 ez21 => ?_)
            replace h := h z21 ez21
            refine g_iinc (n := 127) (v := (1 : Int32)) C dX7_comeInOrder_124 5 rfl (by decide) (Nat.le_of_ble_eq_true rfl) rfl rfl (fun z22 ez22 => ?_)
            replace h := h z22 ez22
            refine g_goto (tgt := 43) C dX7_comeInOrder_127 (by decide) ?_
            exact g_sub [5, 2, 3, 1, 0] rfl h
  replace h := h (fun (M : Mem) (x2_1 : Int32) => GS Z X 2 [(0, .ref (zb Z + 142)), (1, .int x2_1)] [] M) (fun (M : Mem) (x43_1 : Int32) (x43_2 : Int32) (x43_3 : Int32) (x43_4 : Int32) => GS Z X 43 [(0, .ref (zb Z + 142)), (1, .int x43_1), (2, .int x43_2), (3, .int x43_3), (4, .int x43_4)] [] M) s2 s43
  unfold B_Sightings_comeInOrder_i at h
  show GS Z X 0 [(0, .ref (zb Z + 142))] [] M
  refine g_iconst (n := 1) (0 : Int32) C dX7_comeInOrder_0 (by decide) rfl ?_
  refine g_istore_n (n := 2) (i := 1) C dX7_comeInOrder_1 rfl (Nat.le_of_ble_eq_true rfl) rfl rfl (fun z1 ez1 => ?_)
  replace h := h z1 ez1
  exact g_sub [1, 0] rfl h
def B_Sightings_isAsSeen_i  (post : Int32 → Mem → Prop) (R2 : Mem → Int32 → Prop) (M : Mem)  : Prop :=
  ∀ z1 : Int32, z1 = (0 : Int32) → (R2 M z1)
def B_Sightings_isAsSeen_2  (post : Int32 → Mem → Prop) (R2 : Mem → Int32 → Prop) (M : Mem) (x2_1 : Int32) : Prop :=
  ((((7 : Int32) ≤ x2_1) → post (1 : Int32) M) ∧ ((¬ (7 : Int32) ≤ x2_1) → ((((M 142 6) ≤ x2_1) → post (1 : Int32) M) ∧ ((¬ (M 142 6) ≤ x2_1) → vp_in x2_1 7 ∧ (P_Plan_has M 4 (M 143 (x2_1).toNatClampNeg) (fun (r3 : Int32) (M2 : Mem) => (((r3 = 0) → ∀ z4 : Int32, z4 = x2_1 + (1 : Int32) → (R2 M2 z4)) ∧ ((¬ r3 = 0) → vp_in x2_1 7 ∧ (vp_in (M2 143 (x2_1).toNatClampNeg) 7 ∧ (vp_in x2_1 7 ∧ (((((M2 147 ((M2 143 (x2_1).toNatClampNeg)).toNatClampNeg) = (M2 144 (x2_1).toNatClampNeg)) → ∀ z5 : Int32, z5 = x2_1 + (1 : Int32) → (R2 M2 z5)) ∧ ((¬ (M2 147 ((M2 143 (x2_1).toNatClampNeg)).toNatClampNeg) = (M2 144 (x2_1).toNatClampNeg)) → post (0 : Int32) M2)))))))))))))
def P_Sightings_isAsSeen (M : Mem)  (post : Int32 → Mem → Prop) : Prop :=
  ∀ (R2 : Mem → Int32 → Prop), (∀ (M : Mem) (x2_1 : Int32), B_Sightings_isAsSeen_2  post R2 M x2_1 → R2 M x2_1) → B_Sightings_isAsSeen_i  post R2 M
set_option maxHeartbeats 4000000 in
set_option maxRecDepth 100000 in
theorem c_Sightings_isAsSeen {Z : ZT} (hZ : IsX Z) (l : Launch)  (M : Mem) (post : Int32 → Mem → Prop) (h : P_Sightings_isAsSeen M  post) : CtI Z l yX7_isAsSeen cX7_isAsSeen 2 (some .boolean) 1 21 [.ref (zb Z + 142)] M post := by
  refine ctI (own := RX7) rfl (by decide) (Nat.le_of_ble_eq_true rfl) (fun X C E hr hQ => ?_)
  have s2 : ∀ (M : Mem) (x2_1 : Int32), B_Sightings_isAsSeen_2  post (fun (M : Mem) (x2_1 : Int32) => GS Z X 2 [(0, .ref (zb Z + 142)), (1, .int x2_1)] [] M) M x2_1 → GS Z X 2 [(0, .ref (zb Z + 142)), (1, .int x2_1)] [] M := by
    intro M x2_1 h
    unfold B_Sightings_isAsSeen_2 at h
    refine g_iload_n (n := 3) (i := 1) C dX7_isAsSeen_2 rfl 1 rfl rfl ?_
    refine g_bipush (n := 5) (7 : Int32) C dX7_isAsSeen_3 (by decide) rfl ?_
    refine g_icmp_ge (n := 8) (tgt := 60) C dX7_isAsSeen_5 (by decide) rfl (fun c => ?_) (fun c => ?_)
    · replace h := h.1 c
      refine g_iconst (n := 61) (1 : Int32) C dX7_isAsSeen_60 (by decide) rfl ?_
      exact g_zret C hr hQ dX7_isAsSeen_61 rfl h
    · replace h := h.2 c
      refine g_iload_n (n := 9) (i := 1) C dX7_isAsSeen_8 rfl 1 rfl rfl ?_
      refine g_aload_n (n := 10) (i := 0) C dX7_isAsSeen_9 rfl 0 rfl rfl ?_
      refine gf_X7_27 (n := 13) C E (ox_142 hZ) dX7_isAsSeen_10 rfl ?_
      refine g_icmp_ge (n := 16) (tgt := 60) C dX7_isAsSeen_13 (by decide) rfl (fun c => ?_) (fun c => ?_)
      · replace h := h.1 c
        refine g_iconst (n := 61) (1 : Int32) C dX7_isAsSeen_60 (by decide) rfl ?_
        exact g_zret C hr hQ dX7_isAsSeen_61 rfl h
      · replace h := h.2 c
        refine g_aload_n (n := 17) (i := 0) C dX7_isAsSeen_16 rfl 0 rfl rfl ?_
        refine gf_X7_38 (n := 20) C E (ox_142 hZ) dX7_isAsSeen_17 rfl ?_
        refine g_aload_n (n := 21) (i := 0) C dX7_isAsSeen_20 rfl 0 rfl rfl ?_
        refine gf_X7_9 (n := 24) 143 C E (ox_142 hZ) rfl dX7_isAsSeen_21 rfl ?_
        refine g_iload_n (n := 25) (i := 1) C dX7_isAsSeen_24 rfl 1 rfl rfl ?_
        refine g_iald (n := 26) C E (ox_143 hZ) h.1 dX7_isAsSeen_25 rfl ?_
        replace h := h.2
        refine g_callNi (n := 29) (kd := 4) C E (c_Plan_has hZ _ 4 (by unfold Hp; decide) (M 143 (x2_1).toNatClampNeg) M _ h) yi_X4_has wn_725 rfl (ox_4 hZ) (by decide) (Nat.le_of_ble_eq_true rfl) dX7_isAsSeen_26 rfl rfl (fun r3 M2 h => ?_)
        refine g_if_eq (n := 32) (tgt := 54) C dX7_isAsSeen_29 (by decide) rfl (fun c => ?_) (fun c => ?_)
        · replace h := h.1 c
          refine g_iinc (n := 57) (v := (1 : Int32)) C dX7_isAsSeen_54 1 rfl (by decide) (Nat.le_of_ble_eq_true rfl) rfl rfl (fun z4 ez4 => ?_)
          replace h := h z4 ez4
          refine g_goto (tgt := 2) C dX7_isAsSeen_57 (by decide) ?_
          exact g_sub [1, 0] rfl h
        · replace h := h.2 c
          refine g_aload_n (n := 33) (i := 0) C dX7_isAsSeen_32 rfl 0 rfl rfl ?_
          refine gf_X7_24 (n := 36) 147 C E (ox_142 hZ) rfl dX7_isAsSeen_33 rfl ?_
          refine g_aload_n (n := 37) (i := 0) C dX7_isAsSeen_36 rfl 0 rfl rfl ?_
          refine gf_X7_9 (n := 40) 143 C E (ox_142 hZ) rfl dX7_isAsSeen_37 rfl ?_
          refine g_iload_n (n := 41) (i := 1) C dX7_isAsSeen_40 rfl 1 rfl rfl ?_
          refine g_iald (n := 42) C E (ox_143 hZ) h.1 dX7_isAsSeen_41 rfl ?_
          replace h := h.2
          refine g_iald (n := 43) C E (ox_147 hZ) h.1 dX7_isAsSeen_42 rfl ?_
          replace h := h.2
          refine g_aload_n (n := 44) (i := 0) C dX7_isAsSeen_43 rfl 0 rfl rfl ?_
          refine gf_X7_15 (n := 47) 144 C E (ox_142 hZ) rfl dX7_isAsSeen_44 rfl ?_
          refine g_iload_n (n := 48) (i := 1) C dX7_isAsSeen_47 rfl 1 rfl rfl ?_
          refine g_iald (n := 49) C E (ox_144 hZ) h.1 dX7_isAsSeen_48 rfl ?_
          replace h := h.2
          refine g_icmp_eq (n := 52) (tgt := 54) C dX7_isAsSeen_49 (by decide) rfl (fun c => ?_) (fun c => ?_)
          · replace h := h.1 c
            refine g_iinc (n := 57) (v := (1 : Int32)) C dX7_isAsSeen_54 1 rfl (by decide) (Nat.le_of_ble_eq_true rfl) rfl rfl (fun z5 ez5 => ?_)
            replace h := h z5 ez5
            refine g_goto (tgt := 2) C dX7_isAsSeen_57 (by decide) ?_
            exact g_sub [1, 0] rfl h
          · replace h := h.2 c
            refine g_iconst (n := 53) (0 : Int32) C dX7_isAsSeen_52 (by decide) rfl ?_
            exact g_zret C hr hQ dX7_isAsSeen_53 rfl h
  replace h := h (fun (M : Mem) (x2_1 : Int32) => GS Z X 2 [(0, .ref (zb Z + 142)), (1, .int x2_1)] [] M) s2
  unfold B_Sightings_isAsSeen_i at h
  show GS Z X 0 [(0, .ref (zb Z + 142))] [] M
  refine g_iconst (n := 1) (0 : Int32) C dX7_isAsSeen_0 (by decide) rfl ?_
  refine g_istore_n (n := 2) (i := 1) C dX7_isAsSeen_1 rfl (Nat.le_of_ble_eq_true rfl) rfl rfl (fun z1 ez1 => ?_)
  replace h := h z1 ez1
  exact g_sub [1, 0] rfl h
def B_Sightings_noteOrder_i  (post : Mem → Prop) (R9 : Mem → Int32 → Prop) (M : Mem)  : Prop :=
  (((¬ (M 142 7) = 0) → ∀ M1 : Mem, M1 = mset M 142 7 ((M 142 7) + (1 : Int32)) → post M1) ∧ (((M 142 7) = 0) → ∀ z2 : Int32, z2 = (0 : Int32) → (R9 M z2)))
def B_Sightings_noteOrder_9  (post : Mem → Prop) (R9 : Mem → Int32 → Prop) (M : Mem) (x9_1 : Int32) : Prop :=
  ((((7 : Int32) ≤ x9_1) → ∀ M3 : Mem, M3 = mset M 142 7 ((M 142 7) + (1 : Int32)) → post M3) ∧ ((¬ (7 : Int32) ≤ x9_1) → ((((M 4 6) ≤ x9_1) → ∀ M4 : Mem, M4 = mset M 142 7 ((M 142 7) + (1 : Int32)) → post M4) ∧ ((¬ (M 4 6) ≤ x9_1) → vp_in x9_1 7 ∧ (vp_in x9_1 7 ∧ (∀ M5 : Mem, M5 = mset M 146 (x9_1).toNatClampNeg (M 145 (x9_1).toNatClampNeg) → ∀ z6 : Int32, z6 = x9_1 + (1 : Int32) → (R9 M5 z6)))))))
def P_Sightings_noteOrder (M : Mem)  (post : Mem → Prop) : Prop :=
  ∀ (R9 : Mem → Int32 → Prop), (∀ (M : Mem) (x9_1 : Int32), B_Sightings_noteOrder_9  post R9 M x9_1 → R9 M x9_1) → B_Sightings_noteOrder_i  post R9 M
set_option maxHeartbeats 4000000 in
set_option maxRecDepth 100000 in
theorem c_Sightings_noteOrder {Z : ZT} (hZ : IsX Z) (l : Launch)  (M : Mem) (post : Mem → Prop) (h : P_Sightings_noteOrder M  post) : CtV Z l yX7_noteOrder cX7_noteOrder 2 none 0 0 [.ref (zb Z + 142)] M post := by
  refine ctV (own := RX7) rfl (by decide) (Nat.le_of_ble_eq_true rfl) (fun X C E hr hQ => ?_)
  have s9 : ∀ (M : Mem) (x9_1 : Int32), B_Sightings_noteOrder_9  post (fun (M : Mem) (x9_1 : Int32) => GS Z X 9 [(0, .ref (zb Z + 142)), (1, .int x9_1)] [] M) M x9_1 → GS Z X 9 [(0, .ref (zb Z + 142)), (1, .int x9_1)] [] M := by
    intro M x9_1 h
    unfold B_Sightings_noteOrder_9 at h
    refine g_iload_n (n := 10) (i := 1) C dX7_noteOrder_9 rfl 1 rfl rfl ?_
    refine g_bipush (n := 12) (7 : Int32) C dX7_noteOrder_10 (by decide) rfl ?_
    refine g_icmp_ge (n := 15) (tgt := 44) C dX7_noteOrder_12 (by decide) rfl (fun c => ?_) (fun c => ?_)
    · replace h := h.1 c
      refine g_aload_n (n := 45) (i := 0) C dX7_noteOrder_44 rfl 0 rfl rfl ?_
      refine g_dup (n := 46) C dX7_noteOrder_45 rfl rfl ?_
      refine gf_X7_31 (n := 49) C E (ox_142 hZ) dX7_noteOrder_46 rfl ?_
      refine g_iconst (n := 50) (1 : Int32) C dX7_noteOrder_49 (by decide) rfl ?_
      refine g_iadd (n := 51) C dX7_noteOrder_50 rfl ?_
      refine gp_X7_31 (n := 54) C E (ox_142 hZ) dX7_noteOrder_51 rfl (fun M3 eM3 => ?_)
      replace h := h M3 eM3
      exact g_vret C hr hQ dX7_noteOrder_54 h
    · replace h := h.2 c
      refine g_iload_n (n := 16) (i := 1) C dX7_noteOrder_15 rfl 1 rfl rfl ?_
      refine g_aload_n (n := 17) (i := 0) C dX7_noteOrder_16 rfl 0 rfl rfl ?_
      refine gf_X7_38 (n := 20) C E (ox_142 hZ) dX7_noteOrder_17 rfl ?_
      refine gf_X7_48 (n := 23) C E (ox_4 hZ) dX7_noteOrder_20 rfl ?_
      refine g_icmp_ge (n := 26) (tgt := 44) C dX7_noteOrder_23 (by decide) rfl (fun c => ?_) (fun c => ?_)
      · replace h := h.1 c
        refine g_aload_n (n := 45) (i := 0) C dX7_noteOrder_44 rfl 0 rfl rfl ?_
        refine g_dup (n := 46) C dX7_noteOrder_45 rfl rfl ?_
        refine gf_X7_31 (n := 49) C E (ox_142 hZ) dX7_noteOrder_46 rfl ?_
        refine g_iconst (n := 50) (1 : Int32) C dX7_noteOrder_49 (by decide) rfl ?_
        refine g_iadd (n := 51) C dX7_noteOrder_50 rfl ?_
        refine gp_X7_31 (n := 54) C E (ox_142 hZ) dX7_noteOrder_51 rfl (fun M4 eM4 => ?_)
        replace h := h M4 eM4
        exact g_vret C hr hQ dX7_noteOrder_54 h
      · replace h := h.2 c
        refine g_aload_n (n := 27) (i := 0) C dX7_noteOrder_26 rfl 0 rfl rfl ?_
        refine gf_X7_21 (n := 30) 146 C E (ox_142 hZ) rfl dX7_noteOrder_27 rfl ?_
        refine g_iload_n (n := 31) (i := 1) C dX7_noteOrder_30 rfl 1 rfl rfl ?_
        refine g_aload_n (n := 32) (i := 0) C dX7_noteOrder_31 rfl 0 rfl rfl ?_
        refine gf_X7_18 (n := 35) 145 C E (ox_142 hZ) rfl dX7_noteOrder_32 rfl ?_
        refine g_iload_n (n := 36) (i := 1) C dX7_noteOrder_35 rfl 1 rfl rfl ?_
        refine g_iald (n := 37) C E (ox_145 hZ) h.1 dX7_noteOrder_36 rfl ?_
        replace h := h.2
        refine g_iast (n := 38) C E (ox_146 hZ) h.1 dX7_noteOrder_37 rfl (fun M5 eM5 => ?_)
        replace h := h.2 M5 eM5
        refine g_iinc (n := 41) (v := (1 : Int32)) C dX7_noteOrder_38 1 rfl (by decide) (Nat.le_of_ble_eq_true rfl) rfl rfl (fun z6 ez6 => ?_)
        replace h := h z6 ez6
        refine g_goto (tgt := 9) C dX7_noteOrder_41 (by decide) ?_
        exact g_sub [1, 0] rfl h
  replace h := h (fun (M : Mem) (x9_1 : Int32) => GS Z X 9 [(0, .ref (zb Z + 142)), (1, .int x9_1)] [] M) s9
  unfold B_Sightings_noteOrder_i at h
  show GS Z X 0 [(0, .ref (zb Z + 142))] [] M
  refine g_aload_n (n := 1) (i := 0) C dX7_noteOrder_0 rfl 0 rfl rfl ?_
  refine gf_X7_31 (n := 4) C E (ox_142 hZ) dX7_noteOrder_1 rfl ?_
  refine g_if_ne (n := 7) (tgt := 44) C dX7_noteOrder_4 (by decide) rfl (fun c => ?_) (fun c => ?_)
  · replace h := h.1 c
    refine g_aload_n (n := 45) (i := 0) C dX7_noteOrder_44 rfl 0 rfl rfl ?_
    refine g_dup (n := 46) C dX7_noteOrder_45 rfl rfl ?_
    refine gf_X7_31 (n := 49) C E (ox_142 hZ) dX7_noteOrder_46 rfl ?_
    refine g_iconst (n := 50) (1 : Int32) C dX7_noteOrder_49 (by decide) rfl ?_
    refine g_iadd (n := 51) C dX7_noteOrder_50 rfl ?_
    refine gp_X7_31 (n := 54) C E (ox_142 hZ) dX7_noteOrder_51 rfl (fun M1 eM1 => ?_)
    replace h := h M1 eM1
    exact g_vret C hr hQ dX7_noteOrder_54 h
  · replace h := h.2 c
    refine g_iconst (n := 8) (0 : Int32) C dX7_noteOrder_7 (by decide) rfl ?_
    refine g_istore_n (n := 9) (i := 1) C dX7_noteOrder_8 rfl (Nat.le_of_ble_eq_true rfl) rfl rfl (fun z2 ez2 => ?_)
    replace h := h z2 ez2
    exact g_sub [1, 0] rfl h
def B_Sightings_swap_i (p1 : Int32) (p2 : Int32) (post : Mem → Prop)  (M : Mem)  : Prop :=
  P_Plan_has M 4 p1 (fun (r2 : Int32) (M1 : Mem) => (((r2 = 0) → post M1) ∧ ((¬ r2 = 0) → P_Plan_has M1 4 p2 (fun (r4 : Int32) (M3 : Mem) => (((r4 = 0) → post M3) ∧ ((¬ r4 = 0) → vp_in p1 7 ∧ (∀ z5 : Int32, z5 = (M3 145 (p1).toNatClampNeg) → vp_in p2 7 ∧ (vp_in p1 7 ∧ (∀ M6 : Mem, M6 = mset M3 145 (p1).toNatClampNeg (M3 145 (p2).toNatClampNeg) → vp_in p2 7 ∧ (∀ M7 : Mem, M7 = mset M6 145 (p2).toNatClampNeg z5 → post M7))))))))))
def P_Sightings_swap (M : Mem) (p1 : Int32) (p2 : Int32) (post : Mem → Prop) : Prop := B_Sightings_swap_i p1 p2 post M
set_option maxHeartbeats 4000000 in
set_option maxRecDepth 100000 in
theorem c_Sightings_swap {Z : ZT} (hZ : IsX Z) (l : Launch) (p1 : Int32) (p2 : Int32) (M : Mem) (post : Mem → Prop) (h : P_Sightings_swap M p1 p2 post) : CtV Z l yX7_swap cX7_swap 4 none 1 21 [.ref (zb Z + 142), .int p1, .int p2] M post := by
  refine ctV (own := RX7) rfl (by decide) (Nat.le_of_ble_eq_true rfl) (fun X C E hr hQ => ?_)
  unfold P_Sightings_swap at h
  unfold B_Sightings_swap_i at h
  show GS Z X 0 [(0, .ref (zb Z + 142)), (1, .int p1), (2, .int p2)] [] M
  refine g_aload_n (n := 1) (i := 0) C dX7_swap_0 rfl 0 rfl rfl ?_
  refine gf_X7_38 (n := 4) C E (ox_142 hZ) dX7_swap_1 rfl ?_
  refine g_iload_n (n := 5) (i := 1) C dX7_swap_4 rfl 1 rfl rfl ?_
  refine g_callNi (n := 8) (kd := 4) C E (c_Plan_has hZ _ 4 (by unfold Hp; decide) p1 M _ h) yi_X4_has wn_725 rfl (ox_4 hZ) (by decide) (Nat.le_of_ble_eq_true rfl) dX7_swap_5 rfl rfl (fun r2 M1 h => ?_)
  refine g_if_eq (n := 11) (tgt := 48) C dX7_swap_8 (by decide) rfl (fun c => ?_) (fun c => ?_)
  · replace h := h.1 c
    exact g_vret C hr hQ dX7_swap_48 h
  · replace h := h.2 c
    refine g_aload_n (n := 12) (i := 0) C dX7_swap_11 rfl 0 rfl rfl ?_
    refine gf_X7_38 (n := 15) C E (ox_142 hZ) dX7_swap_12 rfl ?_
    refine g_iload_n (n := 16) (i := 2) C dX7_swap_15 rfl 2 rfl rfl ?_
    refine g_callNi (n := 19) (kd := 4) C E (c_Plan_has hZ _ 4 (by unfold Hp; decide) p2 M1 _ h) yi_X4_has wn_725 rfl (ox_4 hZ) (by decide) (Nat.le_of_ble_eq_true rfl) dX7_swap_16 rfl rfl (fun r4 M3 h => ?_)
    refine g_if_eq (n := 22) (tgt := 48) C dX7_swap_19 (by decide) rfl (fun c => ?_) (fun c => ?_)
    · replace h := h.1 c
      exact g_vret C hr hQ dX7_swap_48 h
    · replace h := h.2 c
      refine g_aload_n (n := 23) (i := 0) C dX7_swap_22 rfl 0 rfl rfl ?_
      refine gf_X7_18 (n := 26) 145 C E (ox_142 hZ) rfl dX7_swap_23 rfl ?_
      refine g_iload_n (n := 27) (i := 1) C dX7_swap_26 rfl 1 rfl rfl ?_
      refine g_iald (n := 28) C E (ox_145 hZ) h.1 dX7_swap_27 rfl ?_
      replace h := h.2
      refine g_istore_n (n := 29) (i := 3) C dX7_swap_28 rfl (Nat.le_of_ble_eq_true rfl) rfl rfl (fun z5 ez5 => ?_)
      replace h := h z5 ez5
      refine g_aload_n (n := 30) (i := 0) C dX7_swap_29 rfl 1 rfl rfl ?_
      refine gf_X7_18 (n := 33) 145 C E (ox_142 hZ) rfl dX7_swap_30 rfl ?_
      refine g_iload_n (n := 34) (i := 1) C dX7_swap_33 rfl 2 rfl rfl ?_
      refine g_aload_n (n := 35) (i := 0) C dX7_swap_34 rfl 1 rfl rfl ?_
      refine gf_X7_18 (n := 38) 145 C E (ox_142 hZ) rfl dX7_swap_35 rfl ?_
      refine g_iload_n (n := 39) (i := 2) C dX7_swap_38 rfl 3 rfl rfl ?_
      refine g_iald (n := 40) C E (ox_145 hZ) h.1 dX7_swap_39 rfl ?_
      replace h := h.2
      refine g_iast (n := 41) C E (ox_145 hZ) h.1 dX7_swap_40 rfl (fun M6 eM6 => ?_)
      replace h := h.2 M6 eM6
      refine g_aload_n (n := 42) (i := 0) C dX7_swap_41 rfl 1 rfl rfl ?_
      refine gf_X7_18 (n := 45) 145 C E (ox_142 hZ) rfl dX7_swap_42 rfl ?_
      refine g_iload_n (n := 46) (i := 2) C dX7_swap_45 rfl 3 rfl rfl ?_
      refine g_iload_n (n := 47) (i := 3) C dX7_swap_46 rfl 0 rfl rfl ?_
      refine g_iast (n := 48) C E (ox_145 hZ) h.1 dX7_swap_47 rfl (fun M7 eM7 => ?_)
      replace h := h.2 M7 eM7
      exact g_vret C hr hQ dX7_swap_48 h
def B_Sightings_nextOrder_i  (post : Int32 → Mem → Prop) (R19 : Mem → Int32 → Int32 → Prop) (R54 : Mem → Int32 → Int32 → Int32 → Prop) (R94 : Mem → Int32 → Int32 → Prop) (M : Mem)  : Prop :=
  ∀ z1 : Int32, z1 = ((imin (7 : Int32) (M 4 6)) - (1 : Int32)) → ∀ z2 : Int32, z2 = (z1 - (1 : Int32)) → (R19 M z1 z2)
def B_Sightings_nextOrder_19  (post : Int32 → Mem → Prop) (R19 : Mem → Int32 → Int32 → Prop) (R54 : Mem → Int32 → Int32 → Int32 → Prop) (R94 : Mem → Int32 → Int32 → Prop) (M : Mem) (x19_1 : Int32) (x19_2 : Int32) : Prop :=
  (((x19_2 < 0) → (((0 ≤ x19_2) → ∀ z3 : Int32, z3 = x19_1 → (R54 M x19_1 x19_2 z3)) ∧ ((¬ 0 ≤ x19_2) → post (0 : Int32) M))) ∧ ((¬ x19_2 < 0) → vp_in x19_2 7 ∧ (vp_in (x19_2 + (1 : Int32)) 7 ∧ (((((M 145 (x19_2).toNatClampNeg) ≤ (M 145 ((x19_2 + (1 : Int32))).toNatClampNeg)) → (((0 ≤ x19_2) → ∀ z4 : Int32, z4 = x19_1 → (R54 M x19_1 x19_2 z4)) ∧ ((¬ 0 ≤ x19_2) → post (0 : Int32) M))) ∧ ((¬ (M 145 (x19_2).toNatClampNeg) ≤ (M 145 ((x19_2 + (1 : Int32))).toNatClampNeg)) → ∀ z5 : Int32, z5 = x19_2 + (-1 : Int32) → (R19 M x19_1 z5)))))))
def B_Sightings_nextOrder_54  (post : Int32 → Mem → Prop) (R19 : Mem → Int32 → Int32 → Prop) (R54 : Mem → Int32 → Int32 → Int32 → Prop) (R94 : Mem → Int32 → Int32 → Prop) (M : Mem) (x54_1 : Int32) (x54_2 : Int32) (x54_3 : Int32) : Prop :=
  (((x54_3 ≤ x54_2) → P_Sightings_swap M x54_2 x54_3 (fun (M6 : Mem) => ∀ z7 : Int32, z7 = (x54_2 + (1 : Int32)) → ∀ z8 : Int32, z8 = x54_1 → (R94 M6 z7 z8))) ∧ ((¬ x54_3 ≤ x54_2) → vp_in x54_3 7 ∧ (vp_in x54_2 7 ∧ (((((M 145 (x54_2).toNatClampNeg) ≤ (M 145 (x54_3).toNatClampNeg)) → P_Sightings_swap M x54_2 x54_3 (fun (M9 : Mem) => ∀ z10 : Int32, z10 = (x54_2 + (1 : Int32)) → ∀ z11 : Int32, z11 = x54_1 → (R94 M9 z10 z11))) ∧ ((¬ (M 145 (x54_2).toNatClampNeg) ≤ (M 145 (x54_3).toNatClampNeg)) → ∀ z12 : Int32, z12 = x54_3 + (-1 : Int32) → (R54 M x54_1 x54_2 z12)))))))
def B_Sightings_nextOrder_94  (post : Int32 → Mem → Prop) (R19 : Mem → Int32 → Int32 → Prop) (R54 : Mem → Int32 → Int32 → Int32 → Prop) (R94 : Mem → Int32 → Int32 → Prop) (M : Mem) (x94_4 : Int32) (x94_5 : Int32) : Prop :=
  (((x94_5 ≤ x94_4) → post (1 : Int32) M) ∧ ((¬ x94_5 ≤ x94_4) → P_Sightings_swap M x94_4 x94_5 (fun (M13 : Mem) => ∀ z14 : Int32, z14 = x94_4 + (1 : Int32) → ∀ z15 : Int32, z15 = x94_5 + (-1 : Int32) → (R94 M13 z14 z15))))
def P_Sightings_nextOrder (M : Mem)  (post : Int32 → Mem → Prop) : Prop :=
  ∀ (R19 : Mem → Int32 → Int32 → Prop) (R54 : Mem → Int32 → Int32 → Int32 → Prop) (R94 : Mem → Int32 → Int32 → Prop), (∀ (M : Mem) (x19_1 : Int32) (x19_2 : Int32), B_Sightings_nextOrder_19  post R19 R54 R94 M x19_1 x19_2 → R19 M x19_1 x19_2) → (∀ (M : Mem) (x54_1 : Int32) (x54_2 : Int32) (x54_3 : Int32), B_Sightings_nextOrder_54  post R19 R54 R94 M x54_1 x54_2 x54_3 → R54 M x54_1 x54_2 x54_3) → (∀ (M : Mem) (x94_4 : Int32) (x94_5 : Int32), B_Sightings_nextOrder_94  post R19 R54 R94 M x94_4 x94_5 → R94 M x94_4 x94_5) → B_Sightings_nextOrder_i  post R19 R54 R94 M
set_option maxHeartbeats 4000000 in
set_option maxRecDepth 100000 in
theorem c_Sightings_nextOrder {Z : ZT} (hZ : IsX Z) (l : Launch)  (M : Mem) (post : Int32 → Mem → Prop) (h : P_Sightings_nextOrder M  post) : CtI Z l yX7_nextOrder cX7_nextOrder 6 (some .boolean) 2 44 [.ref (zb Z + 142)] M post := by
  refine ctI (own := RX7) rfl (by decide) (Nat.le_of_ble_eq_true rfl) (fun X C E hr hQ => ?_)
  have s19 : ∀ (M : Mem) (x19_1 : Int32) (x19_2 : Int32), B_Sightings_nextOrder_19  post (fun (M : Mem) (x19_1 : Int32) (x19_2 : Int32) => GS Z X 19 [(0, .ref (zb Z + 142)), (1, .int x19_1), (2, .int x19_2)] [] M) (fun (M : Mem) (x54_1 : Int32) (x54_2 : Int32) (x54_3 : Int32) => GS Z X 54 [(0, .ref (zb Z + 142)), (1, .int x54_1), (2, .int x54_2), (3, .int x54_3)] [] M) (fun (M : Mem) (x94_4 : Int32) (x94_5 : Int32) => GS Z X 94 [(0, .ref (zb Z + 142)), (4, .int x94_4), (5, .int x94_5)] [] M) M x19_1 x19_2 → GS Z X 19 [(0, .ref (zb Z + 142)), (1, .int x19_1), (2, .int x19_2)] [] M := by
    intro M x19_1 x19_2 h
    unfold B_Sightings_nextOrder_19 at h
    refine g_iload_n (n := 20) (i := 2) C dX7_nextOrder_19 rfl 2 rfl rfl ?_
    refine g_if_lt (n := 23) (tgt := 46) C dX7_nextOrder_20 (by decide) rfl (fun c => ?_) (fun c => ?_)
    · replace h := h.1 c
      refine g_iload_n (n := 47) (i := 2) C dX7_nextOrder_46 rfl 2 rfl rfl ?_
      refine g_if_ge (n := 50) (tgt := 52) C dX7_nextOrder_47 (by decide) rfl (fun c => ?_) (fun c => ?_)
      · replace h := h.1 c
        refine g_iload_n (n := 53) (i := 1) C dX7_nextOrder_52 rfl 1 rfl rfl ?_
        refine g_istore_n (n := 54) (i := 3) C dX7_nextOrder_53 rfl (Nat.le_of_ble_eq_true rfl) rfl rfl (fun z3 ez3 => ?_)
        replace h := h z3 ez3
        exact g_sub [1, 2, 3, 0] rfl h
      · replace h := h.2 c
        refine g_iconst (n := 51) (0 : Int32) C dX7_nextOrder_50 (by decide) rfl ?_
        exact g_zret C hr hQ dX7_nextOrder_51 rfl h
    · replace h := h.2 c
      refine g_aload_n (n := 24) (i := 0) C dX7_nextOrder_23 rfl 0 rfl rfl ?_
      refine gf_X7_18 (n := 27) 145 C E (ox_142 hZ) rfl dX7_nextOrder_24 rfl ?_
      refine g_iload_n (n := 28) (i := 2) C dX7_nextOrder_27 rfl 2 rfl rfl ?_
      refine g_iald (n := 29) C E (ox_145 hZ) h.1 dX7_nextOrder_28 rfl ?_
      replace h := h.2
      refine g_aload_n (n := 30) (i := 0) C dX7_nextOrder_29 rfl 0 rfl rfl ?_
      refine gf_X7_18 (n := 33) 145 C E (ox_142 hZ) rfl dX7_nextOrder_30 rfl ?_
      refine g_iload_n (n := 34) (i := 2) C dX7_nextOrder_33 rfl 2 rfl rfl ?_
      refine g_iconst (n := 35) (1 : Int32) C dX7_nextOrder_34 (by decide) rfl ?_
      refine g_iadd (n := 36) C dX7_nextOrder_35 rfl ?_
      refine g_iald (n := 37) C E (ox_145 hZ) h.1 dX7_nextOrder_36 rfl ?_
      replace h := h.2
      refine g_icmp_le (n := 40) (tgt := 46) C dX7_nextOrder_37 (by decide) rfl (fun c => ?_) (fun c => ?_)
      · replace h := h.1 c
        refine g_iload_n (n := 47) (i := 2) C dX7_nextOrder_46 rfl 2 rfl rfl ?_
        refine g_if_ge (n := 50) (tgt := 52) C dX7_nextOrder_47 (by decide) rfl (fun c => ?_) (fun c => ?_)
        · replace h := h.1 c
          refine g_iload_n (n := 53) (i := 1) C dX7_nextOrder_52 rfl 1 rfl rfl ?_
          refine g_istore_n (n := 54) (i := 3) C dX7_nextOrder_53 rfl (Nat.le_of_ble_eq_true rfl) rfl rfl (fun z4 ez4 => ?_)
          replace h := h z4 ez4
          exact g_sub [1, 2, 3, 0] rfl h
        · replace h := h.2 c
          refine g_iconst (n := 51) (0 : Int32) C dX7_nextOrder_50 (by decide) rfl ?_
          exact g_zret C hr hQ dX7_nextOrder_51 rfl h
      · replace h := h.2 c
        refine g_iinc (n := 43) (v := (-1 : Int32)) C dX7_nextOrder_40 2 rfl (by decide) (Nat.le_of_ble_eq_true rfl) rfl rfl (fun z5 ez5 => ?_)
        replace h := h z5 ez5
        refine g_goto (tgt := 19) C dX7_nextOrder_43 (by decide) ?_
        exact g_sub [1, 2, 0] rfl h
  have s54 : ∀ (M : Mem) (x54_1 : Int32) (x54_2 : Int32) (x54_3 : Int32), B_Sightings_nextOrder_54  post (fun (M : Mem) (x19_1 : Int32) (x19_2 : Int32) => GS Z X 19 [(0, .ref (zb Z + 142)), (1, .int x19_1), (2, .int x19_2)] [] M) (fun (M : Mem) (x54_1 : Int32) (x54_2 : Int32) (x54_3 : Int32) => GS Z X 54 [(0, .ref (zb Z + 142)), (1, .int x54_1), (2, .int x54_2), (3, .int x54_3)] [] M) (fun (M : Mem) (x94_4 : Int32) (x94_5 : Int32) => GS Z X 94 [(0, .ref (zb Z + 142)), (4, .int x94_4), (5, .int x94_5)] [] M) M x54_1 x54_2 x54_3 → GS Z X 54 [(0, .ref (zb Z + 142)), (1, .int x54_1), (2, .int x54_2), (3, .int x54_3)] [] M := by
    intro M x54_1 x54_2 x54_3 h
    unfold B_Sightings_nextOrder_54 at h
    refine g_iload_n (n := 55) (i := 3) C dX7_nextOrder_54 rfl 3 rfl rfl ?_
    refine g_iload_n (n := 56) (i := 2) C dX7_nextOrder_55 rfl 2 rfl rfl ?_
    refine g_icmp_le (n := 59) (tgt := 80) C dX7_nextOrder_56 (by decide) rfl (fun c => ?_) (fun c => ?_)
    · replace h := h.1 c
      refine g_aload_n (n := 81) (i := 0) C dX7_nextOrder_80 rfl 0 rfl rfl ?_
      refine g_iload_n (n := 82) (i := 2) C dX7_nextOrder_81 rfl 2 rfl rfl ?_
      refine g_iload_n (n := 83) (i := 3) C dX7_nextOrder_82 rfl 3 rfl rfl ?_
      refine g_callVv (n := 86) (kd := 7) C E (c_Sightings_swap hZ _ x54_2 x54_3 M _ h) yi_X7_swap wd_743 rfl (ox_142 hZ) (by decide) (Nat.le_of_ble_eq_true rfl) dX7_nextOrder_83 rfl rfl (fun M6 h => ?_)
      refine g_iload_n (n := 87) (i := 2) C dX7_nextOrder_86 rfl 2 rfl rfl ?_
      refine g_iconst (n := 88) (1 : Int32) C dX7_nextOrder_87 (by decide) rfl ?_
      refine g_iadd (n := 89) C dX7_nextOrder_88 rfl ?_
      refine g_istore (n := 91) (i := 4) C dX7_nextOrder_89 (Nat.le_of_ble_eq_true rfl) rfl rfl (fun z7 ez7 => ?_)
      replace h := h z7 ez7
      refine g_iload_n (n := 92) (i := 1) C dX7_nextOrder_91 rfl 2 rfl rfl ?_
      refine g_istore (n := 94) (i := 5) C dX7_nextOrder_92 (Nat.le_of_ble_eq_true rfl) rfl rfl (fun z8 ez8 => ?_)
      replace h := h z8 ez8
      exact g_sub [2, 1, 0] rfl h
    · replace h := h.2 c
      refine g_aload_n (n := 60) (i := 0) C dX7_nextOrder_59 rfl 0 rfl rfl ?_
      refine gf_X7_18 (n := 63) 145 C E (ox_142 hZ) rfl dX7_nextOrder_60 rfl ?_
      refine g_iload_n (n := 64) (i := 3) C dX7_nextOrder_63 rfl 3 rfl rfl ?_
      refine g_iald (n := 65) C E (ox_145 hZ) h.1 dX7_nextOrder_64 rfl ?_
      replace h := h.2
      refine g_aload_n (n := 66) (i := 0) C dX7_nextOrder_65 rfl 0 rfl rfl ?_
      refine gf_X7_18 (n := 69) 145 C E (ox_142 hZ) rfl dX7_nextOrder_66 rfl ?_
      refine g_iload_n (n := 70) (i := 2) C dX7_nextOrder_69 rfl 2 rfl rfl ?_
      refine g_iald (n := 71) C E (ox_145 hZ) h.1 dX7_nextOrder_70 rfl ?_
      replace h := h.2
      refine g_icmp_ge (n := 74) (tgt := 80) C dX7_nextOrder_71 (by decide) rfl (fun c => ?_) (fun c => ?_)
      · replace h := h.1 c
        refine g_aload_n (n := 81) (i := 0) C dX7_nextOrder_80 rfl 0 rfl rfl ?_
        refine g_iload_n (n := 82) (i := 2) C dX7_nextOrder_81 rfl 2 rfl rfl ?_
        refine g_iload_n (n := 83) (i := 3) C dX7_nextOrder_82 rfl 3 rfl rfl ?_
        refine g_callVv (n := 86) (kd := 7) C E (c_Sightings_swap hZ _ x54_2 x54_3 M _ h) yi_X7_swap wd_743 rfl (ox_142 hZ) (by decide) (Nat.le_of_ble_eq_true rfl) dX7_nextOrder_83 rfl rfl (fun M9 h => ?_)
        refine g_iload_n (n := 87) (i := 2) C dX7_nextOrder_86 rfl 2 rfl rfl ?_
        refine g_iconst (n := 88) (1 : Int32) C dX7_nextOrder_87 (by decide) rfl ?_
        refine g_iadd (n := 89) C dX7_nextOrder_88 rfl ?_
        refine g_istore (n := 91) (i := 4) C dX7_nextOrder_89 (Nat.le_of_ble_eq_true rfl) rfl rfl (fun z10 ez10 => ?_)
        replace h := h z10 ez10
        refine g_iload_n (n := 92) (i := 1) C dX7_nextOrder_91 rfl 2 rfl rfl ?_
        refine g_istore (n := 94) (i := 5) C dX7_nextOrder_92 (Nat.le_of_ble_eq_true rfl) rfl rfl (fun z11 ez11 => ?_)
        replace h := h z11 ez11
        exact g_sub [2, 1, 0] rfl h
      · replace h := h.2 c
        refine g_iinc (n := 77) (v := (-1 : Int32)) C dX7_nextOrder_74 3 rfl (by decide) (Nat.le_of_ble_eq_true rfl) rfl rfl (fun z12 ez12 => ?_)
        replace h := h z12 ez12
        refine g_goto (tgt := 54) C dX7_nextOrder_77 (by decide) ?_
        exact g_sub [1, 2, 3, 0] rfl h
  have s94 : ∀ (M : Mem) (x94_4 : Int32) (x94_5 : Int32), B_Sightings_nextOrder_94  post (fun (M : Mem) (x19_1 : Int32) (x19_2 : Int32) => GS Z X 19 [(0, .ref (zb Z + 142)), (1, .int x19_1), (2, .int x19_2)] [] M) (fun (M : Mem) (x54_1 : Int32) (x54_2 : Int32) (x54_3 : Int32) => GS Z X 54 [(0, .ref (zb Z + 142)), (1, .int x54_1), (2, .int x54_2), (3, .int x54_3)] [] M) (fun (M : Mem) (x94_4 : Int32) (x94_5 : Int32) => GS Z X 94 [(0, .ref (zb Z + 142)), (4, .int x94_4), (5, .int x94_5)] [] M) M x94_4 x94_5 → GS Z X 94 [(0, .ref (zb Z + 142)), (4, .int x94_4), (5, .int x94_5)] [] M := by
    intro M x94_4 x94_5 h
    unfold B_Sightings_nextOrder_94 at h
    refine g_iload (n := 96) C dX7_nextOrder_94 1 rfl rfl ?_
    refine g_iload (n := 98) C dX7_nextOrder_96 2 rfl rfl ?_
    refine g_icmp_ge (n := 101) (tgt := 118) C dX7_nextOrder_98 (by decide) rfl (fun c => ?_) (fun c => ?_)
    · replace h := h.1 c
      refine g_iconst (n := 119) (1 : Int32) C dX7_nextOrder_118 (by decide) rfl ?_
      exact g_zret C hr hQ dX7_nextOrder_119 rfl h
    · replace h := h.2 c
      refine g_aload_n (n := 102) (i := 0) C dX7_nextOrder_101 rfl 0 rfl rfl ?_
      refine g_iload (n := 104) C dX7_nextOrder_102 1 rfl rfl ?_
      refine g_iload (n := 106) C dX7_nextOrder_104 2 rfl rfl ?_
      refine g_callVv (n := 109) (kd := 7) C E (c_Sightings_swap hZ _ x94_4 x94_5 M _ h) yi_X7_swap wd_743 rfl (ox_142 hZ) (by decide) (Nat.le_of_ble_eq_true rfl) dX7_nextOrder_106 rfl rfl (fun M13 h => ?_)
      refine g_iinc (n := 112) (v := (1 : Int32)) C dX7_nextOrder_109 1 rfl (by decide) (Nat.le_of_ble_eq_true rfl) rfl rfl (fun z14 ez14 => ?_)
      replace h := h z14 ez14
      refine g_iinc (n := 115) (v := (-1 : Int32)) C dX7_nextOrder_112 2 rfl (by decide) (Nat.le_of_ble_eq_true rfl) rfl rfl (fun z15 ez15 => ?_)
      replace h := h z15 ez15
      refine g_goto (tgt := 94) C dX7_nextOrder_115 (by decide) ?_
      exact g_sub [2, 1, 0] rfl h
  replace h := h (fun (M : Mem) (x19_1 : Int32) (x19_2 : Int32) => GS Z X 19 [(0, .ref (zb Z + 142)), (1, .int x19_1), (2, .int x19_2)] [] M) (fun (M : Mem) (x54_1 : Int32) (x54_2 : Int32) (x54_3 : Int32) => GS Z X 54 [(0, .ref (zb Z + 142)), (1, .int x54_1), (2, .int x54_2), (3, .int x54_3)] [] M) (fun (M : Mem) (x94_4 : Int32) (x94_5 : Int32) => GS Z X 94 [(0, .ref (zb Z + 142)), (4, .int x94_4), (5, .int x94_5)] [] M) s19 s54 s94
  unfold B_Sightings_nextOrder_i at h
  show GS Z X 0 [(0, .ref (zb Z + 142))] [] M
  refine g_bipush (n := 2) (7 : Int32) C dX7_nextOrder_0 (by decide) rfl ?_
  refine g_aload_n (n := 3) (i := 0) C dX7_nextOrder_2 rfl 0 rfl rfl ?_
  refine gf_X7_38 (n := 6) C E (ox_142 hZ) dX7_nextOrder_3 rfl ?_
  refine gf_X7_48 (n := 9) C E (ox_4 hZ) dX7_nextOrder_6 rfl ?_
  refine g_mmin (n := 12) C wd_742 wq_403 wq_7 wq_404 (by decide) (Nat.le_of_ble_eq_true rfl) dX7_nextOrder_9 rfl ?_
  refine g_iconst (n := 13) (1 : Int32) C dX7_nextOrder_12 (by decide) rfl ?_
  refine g_isub (n := 14) C dX7_nextOrder_13 rfl ?_
  refine g_istore_n (n := 15) (i := 1) C dX7_nextOrder_14 rfl (Nat.le_of_ble_eq_true rfl) rfl rfl (fun z1 ez1 => ?_)
  replace h := h z1 ez1
  refine g_iload_n (n := 16) (i := 1) C dX7_nextOrder_15 rfl 0 rfl rfl ?_
  refine g_iconst (n := 17) (1 : Int32) C dX7_nextOrder_16 (by decide) rfl ?_
  refine g_isub (n := 18) C dX7_nextOrder_17 rfl ?_
  refine g_istore_n (n := 19) (i := 2) C dX7_nextOrder_18 rfl (Nat.le_of_ble_eq_true rfl) rfl rfl (fun z2 ez2 => ?_)
  replace h := h z2 ez2
  exact g_sub [2, 1, 0] rfl h
def B_Sightings_refresh_i  (post : Mem → Prop) (R20 : Mem → Int32 → Prop) (R54 : Mem → Int32 → Int32 → Prop) (M : Mem)  : Prop :=
  (((¬ (M 142 8) = 0) → ∀ M1 : Mem, M1 = mset M 142 8 (0 : Int32) → ∀ M2 : Mem, M2 = mset M1 142 7 (0 : Int32) → ∀ z3 : Int32, z3 = (0 : Int32) → (R20 M2 z3)) ∧ (((M 142 8) = 0) → post M))
def B_Sightings_refresh_20  (post : Mem → Prop) (R20 : Mem → Int32 → Prop) (R54 : Mem → Int32 → Int32 → Prop) (M : Mem) (x20_1 : Int32) : Prop :=
  ((((7 : Int32) ≤ x20_1) → ∀ z4 : Int32, z4 = (1 : Int32) → ∀ z5 : Int32, z5 = (0 : Int32) → (R54 M z4 z5)) ∧ ((¬ (7 : Int32) ≤ x20_1) → ((((M 4 6) ≤ x20_1) → ∀ z6 : Int32, z6 = (1 : Int32) → ∀ z7 : Int32, z7 = (0 : Int32) → (R54 M z6 z7)) ∧ ((¬ (M 4 6) ≤ x20_1) → vp_in x20_1 7 ∧ (∀ M8 : Mem, M8 = mset M 145 (x20_1).toNatClampNeg x20_1 → ∀ z9 : Int32, z9 = x20_1 + (1 : Int32) → (R20 M8 z9))))))
def B_Sightings_refresh_54  (post : Mem → Prop) (R20 : Mem → Int32 → Prop) (R54 : Mem → Int32 → Int32 → Prop) (M : Mem) (x54_1 : Int32) (x54_2 : Int32) : Prop :=
  ((((1000000 : Int32) ≤ x54_2) → post M) ∧ ((¬ (1000000 : Int32) ≤ x54_2) → (((x54_1 = 0) → post M) ∧ ((¬ x54_1 = 0) → P_Sightings_comeInOrder M (fun (M10 : Mem) => P_Sightings_isAsSeen M10 (fun (r12 : Int32) (M11 : Mem) => (((r12 = 0) → P_Sightings_nextOrder M11 (fun (r14 : Int32) (M13 : Mem) => ∀ z15 : Int32, z15 = r14 → ∀ z16 : Int32, z16 = x54_2 + (1 : Int32) → (R54 M13 z15 z16))) ∧ ((¬ r12 = 0) → P_Sightings_noteOrder M11 (fun (M17 : Mem) => P_Sightings_nextOrder M17 (fun (r19 : Int32) (M18 : Mem) => ∀ z20 : Int32, z20 = r19 → ∀ z21 : Int32, z21 = x54_2 + (1 : Int32) → (R54 M18 z20 z21)))))))))))
def P_Sightings_refresh (M : Mem)  (post : Mem → Prop) : Prop :=
  ∀ (R20 : Mem → Int32 → Prop) (R54 : Mem → Int32 → Int32 → Prop), (∀ (M : Mem) (x20_1 : Int32), B_Sightings_refresh_20  post R20 R54 M x20_1 → R20 M x20_1) → (∀ (M : Mem) (x54_1 : Int32) (x54_2 : Int32), B_Sightings_refresh_54  post R20 R54 M x54_1 x54_2 → R54 M x54_1 x54_2) → B_Sightings_refresh_i  post R20 R54 M
set_option maxHeartbeats 4000000 in
set_option maxRecDepth 100000 in
theorem c_Sightings_refresh {Z : ZT} (hZ : IsX Z) (l : Launch)  (M : Mem) (post : Mem → Prop) (h : P_Sightings_refresh M  post) : CtV Z l yX7_refresh cX7_refresh 3 none 3 70 [.ref (zb Z + 142)] M post := by
  refine ctV (own := RX7) rfl (by decide) (Nat.le_of_ble_eq_true rfl) (fun X C E hr hQ => ?_)
  have s20 : ∀ (M : Mem) (x20_1 : Int32), B_Sightings_refresh_20  post (fun (M : Mem) (x20_1 : Int32) => GS Z X 20 [(0, .ref (zb Z + 142)), (1, .int x20_1)] [] M) (fun (M : Mem) (x54_1 : Int32) (x54_2 : Int32) => GS Z X 54 [(0, .ref (zb Z + 142)), (1, .int x54_1), (2, .int x54_2)] [] M) M x20_1 → GS Z X 20 [(0, .ref (zb Z + 142)), (1, .int x20_1)] [] M := by
    intro M x20_1 h
    unfold B_Sightings_refresh_20 at h
    refine g_iload_n (n := 21) (i := 1) C dX7_refresh_20 rfl 1 rfl rfl ?_
    refine g_bipush (n := 23) (7 : Int32) C dX7_refresh_21 (by decide) rfl ?_
    refine g_icmp_ge (n := 26) (tgt := 50) C dX7_refresh_23 (by decide) rfl (fun c => ?_) (fun c => ?_)
    · replace h := h.1 c
      refine g_iconst (n := 51) (1 : Int32) C dX7_refresh_50 (by decide) rfl ?_
      refine g_istore_n (n := 52) (i := 1) C dX7_refresh_51 rfl (Nat.le_of_ble_eq_true rfl) rfl rfl (fun z4 ez4 => ?_)
      replace h := h z4 ez4
      refine g_iconst (n := 53) (0 : Int32) C dX7_refresh_52 (by decide) rfl ?_
      refine g_istore_n (n := 54) (i := 2) C dX7_refresh_53 rfl (Nat.le_of_ble_eq_true rfl) rfl rfl (fun z5 ez5 => ?_)
      replace h := h z5 ez5
      exact g_sub [2, 1, 0] rfl h
    · replace h := h.2 c
      refine g_iload_n (n := 27) (i := 1) C dX7_refresh_26 rfl 1 rfl rfl ?_
      refine g_aload_n (n := 28) (i := 0) C dX7_refresh_27 rfl 0 rfl rfl ?_
      refine gf_X7_38 (n := 31) C E (ox_142 hZ) dX7_refresh_28 rfl ?_
      refine gf_X7_48 (n := 34) C E (ox_4 hZ) dX7_refresh_31 rfl ?_
      refine g_icmp_ge (n := 37) (tgt := 50) C dX7_refresh_34 (by decide) rfl (fun c => ?_) (fun c => ?_)
      · replace h := h.1 c
        refine g_iconst (n := 51) (1 : Int32) C dX7_refresh_50 (by decide) rfl ?_
        refine g_istore_n (n := 52) (i := 1) C dX7_refresh_51 rfl (Nat.le_of_ble_eq_true rfl) rfl rfl (fun z6 ez6 => ?_)
        replace h := h z6 ez6
        refine g_iconst (n := 53) (0 : Int32) C dX7_refresh_52 (by decide) rfl ?_
        refine g_istore_n (n := 54) (i := 2) C dX7_refresh_53 rfl (Nat.le_of_ble_eq_true rfl) rfl rfl (fun z7 ez7 => ?_)
        replace h := h z7 ez7
        exact g_sub [2, 1, 0] rfl h
      · replace h := h.2 c
        refine g_aload_n (n := 38) (i := 0) C dX7_refresh_37 rfl 0 rfl rfl ?_
        refine gf_X7_18 (n := 41) 145 C E (ox_142 hZ) rfl dX7_refresh_38 rfl ?_
        refine g_iload_n (n := 42) (i := 1) C dX7_refresh_41 rfl 1 rfl rfl ?_
        refine g_iload_n (n := 43) (i := 1) C dX7_refresh_42 rfl 1 rfl rfl ?_
        refine g_iast (n := 44) C E (ox_145 hZ) h.1 dX7_refresh_43 rfl (fun M8 eM8 => ?_)
        replace h := h.2 M8 eM8
        refine g_iinc (n := 47) (v := (1 : Int32)) C dX7_refresh_44 1 rfl (by decide) (Nat.le_of_ble_eq_true rfl) rfl rfl (fun z9 ez9 => ?_)
        replace h := h z9 ez9
        refine g_goto (tgt := 20) C dX7_refresh_47 (by decide) ?_
        exact g_sub [1, 0] rfl h
  have s54 : ∀ (M : Mem) (x54_1 : Int32) (x54_2 : Int32), B_Sightings_refresh_54  post (fun (M : Mem) (x20_1 : Int32) => GS Z X 20 [(0, .ref (zb Z + 142)), (1, .int x20_1)] [] M) (fun (M : Mem) (x54_1 : Int32) (x54_2 : Int32) => GS Z X 54 [(0, .ref (zb Z + 142)), (1, .int x54_1), (2, .int x54_2)] [] M) M x54_1 x54_2 → GS Z X 54 [(0, .ref (zb Z + 142)), (1, .int x54_1), (2, .int x54_2)] [] M := by
    intro M x54_1 x54_2 h
    unfold B_Sightings_refresh_54 at h
    refine g_iload_n (n := 55) (i := 2) C dX7_refresh_54 rfl 2 rfl rfl ?_
    refine g_ldc (n := 57) (1000000 : Int32) C wd_720 dX7_refresh_55 rfl ?_
    refine g_icmp_ge (n := 60) (tgt := 90) C dX7_refresh_57 (by decide) rfl (fun c => ?_) (fun c => ?_)
    · replace h := h.1 c
      exact g_vret C hr hQ dX7_refresh_90 h
    · replace h := h.2 c
      refine g_iload_n (n := 61) (i := 1) C dX7_refresh_60 rfl 1 rfl rfl ?_
      refine g_if_eq (n := 64) (tgt := 90) C dX7_refresh_61 (by decide) rfl (fun c => ?_) (fun c => ?_)
      · replace h := h.1 c
        exact g_vret C hr hQ dX7_refresh_90 h
      · replace h := h.2 c
        refine g_aload_n (n := 65) (i := 0) C dX7_refresh_64 rfl 0 rfl rfl ?_
        refine g_callVv (n := 68) (kd := 7) C E (c_Sightings_comeInOrder hZ _  M _ h) yi_X7_comeInOrder wd_721 rfl (ox_142 hZ) (by decide) (Nat.le_of_ble_eq_true rfl) dX7_refresh_65 rfl rfl (fun M10 h => ?_)
        refine g_aload_n (n := 69) (i := 0) C dX7_refresh_68 rfl 0 rfl rfl ?_
        refine g_callVi (n := 72) (kd := 7) C E (c_Sightings_isAsSeen hZ _  M10 _ h) yi_X7_isAsSeen wd_730 rfl (ox_142 hZ) (by decide) (Nat.le_of_ble_eq_true rfl) dX7_refresh_69 rfl rfl (fun r12 M11 h => ?_)
        refine g_if_eq (n := 75) (tgt := 79) C dX7_refresh_72 (by decide) rfl (fun c => ?_) (fun c => ?_)
        · replace h := h.1 c
          refine g_aload_n (n := 80) (i := 0) C dX7_refresh_79 rfl 0 rfl rfl ?_
          refine g_callVi (n := 83) (kd := 7) C E (c_Sightings_nextOrder hZ _  M11 _ h) yi_X7_nextOrder wd_738 rfl (ox_142 hZ) (by decide) (Nat.le_of_ble_eq_true rfl) dX7_refresh_80 rfl rfl (fun r14 M13 h => ?_)
          refine g_istore_n (n := 84) (i := 1) C dX7_refresh_83 rfl (Nat.le_of_ble_eq_true rfl) rfl rfl (fun z15 ez15 => ?_)
          replace h := h z15 ez15
          refine g_iinc (n := 87) (v := (1 : Int32)) C dX7_refresh_84 2 rfl (by decide) (Nat.le_of_ble_eq_true rfl) rfl rfl (fun z16 ez16 => ?_)
          replace h := h z16 ez16
          refine g_goto (tgt := 54) C dX7_refresh_87 (by decide) ?_
          exact g_sub [2, 1, 0] rfl h
        · replace h := h.2 c
          refine g_aload_n (n := 76) (i := 0) C dX7_refresh_75 rfl 0 rfl rfl ?_
          refine g_callVv (n := 79) (kd := 7) C E (c_Sightings_noteOrder hZ _  M11 _ h) yi_X7_noteOrder wd_734 rfl (ox_142 hZ) (by decide) (Nat.le_of_ble_eq_true rfl) dX7_refresh_76 rfl rfl (fun M17 h => ?_)
          refine g_aload_n (n := 80) (i := 0) C dX7_refresh_79 rfl 0 rfl rfl ?_
          refine g_callVi (n := 83) (kd := 7) C E (c_Sightings_nextOrder hZ _  M17 _ h) yi_X7_nextOrder wd_738 rfl (ox_142 hZ) (by decide) (Nat.le_of_ble_eq_true rfl) dX7_refresh_80 rfl rfl (fun r19 M18 h => ?_)
          refine g_istore_n (n := 84) (i := 1) C dX7_refresh_83 rfl (Nat.le_of_ble_eq_true rfl) rfl rfl (fun z20 ez20 => ?_)
          replace h := h z20 ez20
          refine g_iinc (n := 87) (v := (1 : Int32)) C dX7_refresh_84 2 rfl (by decide) (Nat.le_of_ble_eq_true rfl) rfl rfl (fun z21 ez21 => ?_)
          replace h := h z21 ez21
          refine g_goto (tgt := 54) C dX7_refresh_87 (by decide) ?_
          exact g_sub [2, 1, 0] rfl h
  replace h := h (fun (M : Mem) (x20_1 : Int32) => GS Z X 20 [(0, .ref (zb Z + 142)), (1, .int x20_1)] [] M) (fun (M : Mem) (x54_1 : Int32) (x54_2 : Int32) => GS Z X 54 [(0, .ref (zb Z + 142)), (1, .int x54_1), (2, .int x54_2)] [] M) s20 s54
  unfold B_Sightings_refresh_i at h
  show GS Z X 0 [(0, .ref (zb Z + 142))] [] M
  refine g_aload_n (n := 1) (i := 0) C dX7_refresh_0 rfl 0 rfl rfl ?_
  refine gf_X7_34 (n := 4) C E (ox_142 hZ) dX7_refresh_1 rfl ?_
  refine g_if_ne (n := 7) (tgt := 8) C dX7_refresh_4 (by decide) rfl (fun c => ?_) (fun c => ?_)
  · replace h := h.1 c
    refine g_aload_n (n := 9) (i := 0) C dX7_refresh_8 rfl 0 rfl rfl ?_
    refine g_iconst (n := 10) (0 : Int32) C dX7_refresh_9 (by decide) rfl ?_
    refine gp_X7_34 (n := 13) C E (ox_142 hZ) rfl rfl dX7_refresh_10 rfl (fun M1 eM1 => ?_)
    replace h := h M1 eM1
    refine g_aload_n (n := 14) (i := 0) C dX7_refresh_13 rfl 0 rfl rfl ?_
    refine g_iconst (n := 15) (0 : Int32) C dX7_refresh_14 (by decide) rfl ?_
    refine gp_X7_31 (n := 18) C E (ox_142 hZ) dX7_refresh_15 rfl (fun M2 eM2 => ?_)
    replace h := h M2 eM2
    refine g_iconst (n := 19) (0 : Int32) C dX7_refresh_18 (by decide) rfl ?_
    refine g_istore_n (n := 20) (i := 1) C dX7_refresh_19 rfl (Nat.le_of_ble_eq_true rfl) rfl rfl (fun z3 ez3 => ?_)
    replace h := h z3 ez3
    exact g_sub [1, 0] rfl h
  · replace h := h.2 c
    exact g_vret C hr hQ dX7_refresh_7 h
