def B_Dealing_goStale_i  (post : Mem → Prop)  (M : Mem)  : Prop :=
  ∀ M1 : Mem, M1 = mset M 124 10 (1 : Int32) → post M1
def P_Dealing_goStale (M : Mem)  (post : Mem → Prop) : Prop := B_Dealing_goStale_i  post M
set_option maxHeartbeats 4000000 in
set_option maxRecDepth 100000 in
theorem c_Dealing_goStale {Z : ZT} (hZ : IsX Z) (l : Launch)  (M : Mem) (post : Mem → Prop) (h : P_Dealing_goStale M  post) : CtV Z l yX1_goStale cX1_goStale 1 none 0 0 [.ref (zb Z + 124)] M post := by
  refine ctV (own := RX1) rfl (by decide) (Nat.le_of_ble_eq_true rfl) (fun X C E hr hQ => ?_)
  unfold P_Dealing_goStale at h
  unfold B_Dealing_goStale_i at h
  show GS Z X 0 [(0, .ref (zb Z + 124))] [] M
  refine g_aload_n (n := 1) (i := 0) C dX1_goStale_0 rfl 0 rfl rfl ?_
  refine g_iconst (n := 2) (1 : Int32) C dX1_goStale_1 (by decide) rfl ?_
  refine gp_X1_34 (n := 5) C E (ox_124 hZ) rfl rfl dX1_goStale_2 rfl (fun M1 eM1 => ?_)
  replace h := h M1 eM1
  exact g_vret C hr hQ dX1_goStale_5 h
def B_Dealing_ownerFor_i (p1 : Int32) (post : Int32 → Mem → Prop)  (M : Mem)  : Prop :=
  P_Plan_has M 4 p1 (fun (r2 : Int32) (M1 : Mem) => (((r2 = 0) → post (-4 : Int32) M1) ∧ ((¬ r2 = 0) → vp_in p1 7 ∧ (post (M1 127 (p1).toNatClampNeg) M1))))
def P_Dealing_ownerFor (M : Mem) (p1 : Int32) (post : Int32 → Mem → Prop) : Prop := B_Dealing_ownerFor_i p1 post M
set_option maxHeartbeats 4000000 in
set_option maxRecDepth 100000 in
theorem c_Dealing_ownerFor {Z : ZT} (hZ : IsX Z) (l : Launch) (p1 : Int32) (M : Mem) (post : Int32 → Mem → Prop) (h : P_Dealing_ownerFor M p1 post) : CtI Z l yX1_ownerFor cX1_ownerFor 2 (some .int) 1 21 [.ref (zb Z + 124), .int p1] M post := by
  refine ctI (own := RX1) rfl (by decide) (Nat.le_of_ble_eq_true rfl) (fun X C E hr hQ => ?_)
  unfold P_Dealing_ownerFor at h
  unfold B_Dealing_ownerFor_i at h
  show GS Z X 0 [(0, .ref (zb Z + 124)), (1, .int p1)] [] M
  refine g_aload_n (n := 1) (i := 0) C dX1_ownerFor_0 rfl 0 rfl rfl ?_
  refine gf_X1_38 (n := 4) C E (ox_124 hZ) dX1_ownerFor_1 rfl ?_
  refine g_iload_n (n := 5) (i := 1) C dX1_ownerFor_4 rfl 1 rfl rfl ?_
  refine g_callNi (n := 8) (kd := 4) C E (c_Plan_has hZ _ 4 (by unfold Hp; decide) p1 M _ h) yi_X4_has wn_678 rfl (ox_4 hZ) (by decide) (Nat.le_of_ble_eq_true rfl) dX1_ownerFor_5 rfl rfl (fun r2 M1 h => ?_)
  refine g_if_eq (n := 11) (tgt := 20) C dX1_ownerFor_8 (by decide) rfl (fun c => ?_) (fun c => ?_)
  · replace h := h.1 c
    refine g_bipush (n := 22) (-4 : Int32) C dX1_ownerFor_20 (by decide) rfl ?_
    exact g_iret C hr hQ dX1_ownerFor_22 h
  · replace h := h.2 c
    refine g_aload_n (n := 12) (i := 0) C dX1_ownerFor_11 rfl 0 rfl rfl ?_
    refine gf_X1_18 (n := 15) 127 C E (ox_124 hZ) rfl dX1_ownerFor_12 rfl ?_
    refine g_iload_n (n := 16) (i := 1) C dX1_ownerFor_15 rfl 1 rfl rfl ?_
    refine g_iald (n := 17) C E (ox_127 hZ) h.1 dX1_ownerFor_16 rfl ?_
    replace h := h.2
    refine g_goto (tgt := 22) C dX1_ownerFor_17 (by decide) ?_
    exact g_iret C hr hQ dX1_ownerFor_22 h
def B_Dealing_begin_i  (post : Mem → Prop) (R18 : Mem → Int32 → Prop) (R97 : Mem → Int32 → Prop) (M : Mem)  : Prop :=
  ∀ M1 : Mem, M1 = mset M 124 6 (0 : Int32) → ∀ M2 : Mem, M2 = mset M1 124 7 (0 : Int32) → ∀ M3 : Mem, M3 = mset M2 124 8 (1000000 : Int32) → ∀ z4 : Int32, z4 = (0 : Int32) → (R18 M3 z4)
def B_Dealing_begin_18  (post : Mem → Prop) (R18 : Mem → Int32 → Prop) (R97 : Mem → Int32 → Prop) (M : Mem) (x18_1 : Int32) : Prop :=
  ((((M 4 6) ≤ x18_1) → ∀ z5 : Int32, z5 = (0 : Int32) → (R97 M z5)) ∧ ((¬ (M 4 6) ≤ x18_1) → vp_in x18_1 7 ∧ (∀ M6 : Mem, M6 = mset M 127 (x18_1).toNatClampNeg (-4 : Int32) → vp_in x18_1 7 ∧ ((((¬ (M6 129 (x18_1).toNatClampNeg) = 0) → ∀ z7 : Int32, z7 = x18_1 + (1 : Int32) → (R18 M6 z7)) ∧ (((M6 129 (x18_1).toNatClampNeg) = 0) → vp_in (M6 124 6) 7 ∧ (∀ M8 : Mem, M8 = mset M6 125 ((M6 124 6)).toNatClampNeg x18_1 → ∀ M9 : Mem, M9 = mset M8 124 6 ((M8 124 6) + (1 : Int32)) → vp_in x18_1 7 ∧ (∀ M10 : Mem, M10 = mset M9 124 8 (imin (M9 124 8) (M9 131 (x18_1).toNatClampNeg)) → ∀ z11 : Int32, z11 = x18_1 + (1 : Int32) → (R18 M10 z11)))))))))
def B_Dealing_begin_97  (post : Mem → Prop) (R18 : Mem → Int32 → Prop) (R97 : Mem → Int32 → Prop) (M : Mem) (x97_1 : Int32) : Prop :=
  ((((M 124 6) ≤ x97_1) → post M) ∧ ((¬ (M 124 6) ≤ x97_1) → vp_in x97_1 7 ∧ (vp_in (M 125 (x97_1).toNatClampNeg) 7 ∧ (∀ M12 : Mem, M12 = mset M 131 ((M 125 (x97_1).toNatClampNeg)).toNatClampNeg (M 124 8) → ∀ z13 : Int32, z13 = x97_1 + (1 : Int32) → (R97 M12 z13)))))
def P_Dealing_begin (M : Mem)  (post : Mem → Prop) : Prop :=
  ∀ (R18 : Mem → Int32 → Prop) (R97 : Mem → Int32 → Prop), (∀ (M : Mem) (x18_1 : Int32), B_Dealing_begin_18  post R18 R97 M x18_1 → R18 M x18_1) → (∀ (M : Mem) (x97_1 : Int32), B_Dealing_begin_97  post R18 R97 M x97_1 → R97 M x97_1) → B_Dealing_begin_i  post R18 R97 M
set_option maxHeartbeats 4000000 in
set_option maxRecDepth 100000 in
theorem c_Dealing_begin {Z : ZT} (hZ : IsX Z) (l : Launch)  (M : Mem) (post : Mem → Prop) (h : P_Dealing_begin M  post) : CtV Z l yX1_begin cX1_begin 2 none 1 21 [.ref (zb Z + 124)] M post := by
  refine ctV (own := RX1) rfl (by decide) (Nat.le_of_ble_eq_true rfl) (fun X C E hr hQ => ?_)
  have s18 : ∀ (M : Mem) (x18_1 : Int32), B_Dealing_begin_18  post (fun (M : Mem) (x18_1 : Int32) => GS Z X 18 [(0, .ref (zb Z + 124)), (1, .int x18_1)] [] M) (fun (M : Mem) (x97_1 : Int32) => GS Z X 97 [(0, .ref (zb Z + 124)), (1, .int x97_1)] [] M) M x18_1 → GS Z X 18 [(0, .ref (zb Z + 124)), (1, .int x18_1)] [] M := by
    intro M x18_1 h
    unfold B_Dealing_begin_18 at h
    refine g_iload_n (n := 19) (i := 1) C dX1_begin_18 rfl 1 rfl rfl ?_
    refine g_aload_n (n := 20) (i := 0) C dX1_begin_19 rfl 0 rfl rfl ?_
    refine gf_X1_38 (n := 23) C E (ox_124 hZ) dX1_begin_20 rfl ?_
    refine gf_X1_81 (n := 26) C E (ox_4 hZ) dX1_begin_23 rfl ?_
    refine g_icmp_ge (n := 29) (tgt := 95) C dX1_begin_26 (by decide) rfl (fun c => ?_) (fun c => ?_)
    · replace h := h.1 c
      refine g_iconst (n := 96) (0 : Int32) C dX1_begin_95 (by decide) rfl ?_
      refine g_istore_n (n := 97) (i := 1) C dX1_begin_96 rfl (Nat.le_of_ble_eq_true rfl) rfl rfl (fun z5 ez5 => ?_)
      replace h := h z5 ez5
      exact g_sub [1, 0] rfl h
    · replace h := h.2 c
      refine g_aload_n (n := 30) (i := 0) C dX1_begin_29 rfl 0 rfl rfl ?_
      refine gf_X1_18 (n := 33) 127 C E (ox_124 hZ) rfl dX1_begin_30 rfl ?_
      refine g_iload_n (n := 34) (i := 1) C dX1_begin_33 rfl 1 rfl rfl ?_
      refine g_bipush (n := 36) (-4 : Int32) C dX1_begin_34 (by decide) rfl ?_
      refine g_iast (n := 37) C E (ox_127 hZ) h.1 dX1_begin_36 rfl (fun M6 eM6 => ?_)
      replace h := h.2 M6 eM6
      refine g_aload_n (n := 38) (i := 0) C dX1_begin_37 rfl 0 rfl rfl ?_
      refine gf_X1_47 (n := 41) 128 C E (ox_124 hZ) rfl dX1_begin_38 rfl ?_
      refine gf_X1_84 (n := 44) 129 C E (ox_128 hZ) rfl dX1_begin_41 rfl ?_
      refine g_iload_n (n := 45) (i := 1) C dX1_begin_44 rfl 1 rfl rfl ?_
      refine g_iald (n := 46) C E (ox_129 hZ) h.1 dX1_begin_45 rfl ?_
      replace h := h.2
      refine g_if_ne (n := 49) (tgt := 89) C dX1_begin_46 (by decide) rfl (fun c => ?_) (fun c => ?_)
      · replace h := h.1 c
        refine g_iinc (n := 92) (v := (1 : Int32)) C dX1_begin_89 1 rfl (by decide) (Nat.le_of_ble_eq_true rfl) rfl rfl (fun z7 ez7 => ?_)
        replace h := h z7 ez7
        refine g_goto (tgt := 18) C dX1_begin_92 (by decide) ?_
        exact g_sub [1, 0] rfl h
      · replace h := h.2 c
        refine g_aload_n (n := 50) (i := 0) C dX1_begin_49 rfl 0 rfl rfl ?_
        refine gf_X1_9 (n := 53) 125 C E (ox_124 hZ) rfl dX1_begin_50 rfl ?_
        refine g_aload_n (n := 54) (i := 0) C dX1_begin_53 rfl 0 rfl rfl ?_
        refine gf_X1_21 (n := 57) C E (ox_124 hZ) dX1_begin_54 rfl ?_
        refine g_iload_n (n := 58) (i := 1) C dX1_begin_57 rfl 1 rfl rfl ?_
        refine g_iast (n := 59) C E (ox_125 hZ) h.1 dX1_begin_58 rfl (fun M8 eM8 => ?_)
        replace h := h.2 M8 eM8
        refine g_aload_n (n := 60) (i := 0) C dX1_begin_59 rfl 0 rfl rfl ?_
        refine g_dup (n := 61) C dX1_begin_60 rfl rfl ?_
        refine gf_X1_21 (n := 64) C E (ox_124 hZ) dX1_begin_61 rfl ?_
        refine g_iconst (n := 65) (1 : Int32) C dX1_begin_64 (by decide) rfl ?_
        refine g_iadd (n := 66) C dX1_begin_65 rfl ?_
        refine gp_X1_21 (n := 69) C E (ox_124 hZ) dX1_begin_66 rfl (fun M9 eM9 => ?_)
        replace h := h M9 eM9
        refine g_aload_n (n := 70) (i := 0) C dX1_begin_69 rfl 0 rfl rfl ?_
        refine g_aload_n (n := 71) (i := 0) C dX1_begin_70 rfl 0 rfl rfl ?_
        refine gf_X1_28 (n := 74) C E (ox_124 hZ) dX1_begin_71 rfl ?_
        refine g_aload_n (n := 75) (i := 0) C dX1_begin_74 rfl 0 rfl rfl ?_
        refine gf_X1_47 (n := 78) 128 C E (ox_124 hZ) rfl dX1_begin_75 rfl ?_
        refine gf_X1_87 (n := 81) 131 C E (ox_128 hZ) rfl dX1_begin_78 rfl ?_
        refine g_iload_n (n := 82) (i := 1) C dX1_begin_81 rfl 1 rfl rfl ?_
        refine g_iald (n := 83) C E (ox_131 hZ) h.1 dX1_begin_82 rfl ?_
        replace h := h.2
        refine g_mmin (n := 86) C wd_658 wq_403 wq_7 wq_404 (by decide) (Nat.le_of_ble_eq_true rfl) dX1_begin_83 rfl ?_
        refine gp_X1_28 (n := 89) C E (ox_124 hZ) dX1_begin_86 rfl (fun M10 eM10 => ?_)
        replace h := h M10 eM10
        refine g_iinc (n := 92) (v := (1 : Int32)) C dX1_begin_89 1 rfl (by decide) (Nat.le_of_ble_eq_true rfl) rfl rfl (fun z11 ez11 => ?_)
        replace h := h z11 ez11
        refine g_goto (tgt := 18) C dX1_begin_92 (by decide) ?_
        exact g_sub [1, 0] rfl h
  have s97 : ∀ (M : Mem) (x97_1 : Int32), B_Dealing_begin_97  post (fun (M : Mem) (x18_1 : Int32) => GS Z X 18 [(0, .ref (zb Z + 124)), (1, .int x18_1)] [] M) (fun (M : Mem) (x97_1 : Int32) => GS Z X 97 [(0, .ref (zb Z + 124)), (1, .int x97_1)] [] M) M x97_1 → GS Z X 97 [(0, .ref (zb Z + 124)), (1, .int x97_1)] [] M := by
    intro M x97_1 h
    unfold B_Dealing_begin_97 at h
    refine g_iload_n (n := 98) (i := 1) C dX1_begin_97 rfl 1 rfl rfl ?_
    refine g_aload_n (n := 99) (i := 0) C dX1_begin_98 rfl 0 rfl rfl ?_
    refine gf_X1_21 (n := 102) C E (ox_124 hZ) dX1_begin_99 rfl ?_
    refine g_icmp_ge (n := 105) (tgt := 129) C dX1_begin_102 (by decide) rfl (fun c => ?_) (fun c => ?_)
    · replace h := h.1 c
      exact g_vret C hr hQ dX1_begin_129 h
    · replace h := h.2 c
      refine g_aload_n (n := 106) (i := 0) C dX1_begin_105 rfl 0 rfl rfl ?_
      refine gf_X1_47 (n := 109) 128 C E (ox_124 hZ) rfl dX1_begin_106 rfl ?_
      refine gf_X1_87 (n := 112) 131 C E (ox_128 hZ) rfl dX1_begin_109 rfl ?_
      refine g_aload_n (n := 113) (i := 0) C dX1_begin_112 rfl 0 rfl rfl ?_
      refine gf_X1_9 (n := 116) 125 C E (ox_124 hZ) rfl dX1_begin_113 rfl ?_
      refine g_iload_n (n := 117) (i := 1) C dX1_begin_116 rfl 1 rfl rfl ?_
      refine g_iald (n := 118) C E (ox_125 hZ) h.1 dX1_begin_117 rfl ?_
      replace h := h.2
      refine g_aload_n (n := 119) (i := 0) C dX1_begin_118 rfl 0 rfl rfl ?_
      refine gf_X1_28 (n := 122) C E (ox_124 hZ) dX1_begin_119 rfl ?_
      refine g_iast (n := 123) C E (ox_131 hZ) h.1 dX1_begin_122 rfl (fun M12 eM12 => ?_)
      replace h := h.2 M12 eM12
      refine g_iinc (n := 126) (v := (1 : Int32)) C dX1_begin_123 1 rfl (by decide) (Nat.le_of_ble_eq_true rfl) rfl rfl (fun z13 ez13 => ?_)
      replace h := h z13 ez13
      refine g_goto (tgt := 97) C dX1_begin_126 (by decide) ?_
      exact g_sub [1, 0] rfl h
  replace h := h (fun (M : Mem) (x18_1 : Int32) => GS Z X 18 [(0, .ref (zb Z + 124)), (1, .int x18_1)] [] M) (fun (M : Mem) (x97_1 : Int32) => GS Z X 97 [(0, .ref (zb Z + 124)), (1, .int x97_1)] [] M) s18 s97
  unfold B_Dealing_begin_i at h
  show GS Z X 0 [(0, .ref (zb Z + 124))] [] M
  refine g_aload_n (n := 1) (i := 0) C dX1_begin_0 rfl 0 rfl rfl ?_
  refine g_iconst (n := 2) (0 : Int32) C dX1_begin_1 (by decide) rfl ?_
  refine gp_X1_21 (n := 5) C E (ox_124 hZ) dX1_begin_2 rfl (fun M1 eM1 => ?_)
  replace h := h M1 eM1
  refine g_aload_n (n := 6) (i := 0) C dX1_begin_5 rfl 0 rfl rfl ?_
  refine g_iconst (n := 7) (0 : Int32) C dX1_begin_6 (by decide) rfl ?_
  refine gp_X1_25 (n := 10) C E (ox_124 hZ) dX1_begin_7 rfl (fun M2 eM2 => ?_)
  replace h := h M2 eM2
  refine g_aload_n (n := 11) (i := 0) C dX1_begin_10 rfl 0 rfl rfl ?_
  refine g_ldc (n := 13) (1000000 : Int32) C wd_657 dX1_begin_11 rfl ?_
  refine gp_X1_28 (n := 16) C E (ox_124 hZ) dX1_begin_13 rfl (fun M3 eM3 => ?_)
  replace h := h M3 eM3
  refine g_iconst (n := 17) (0 : Int32) C dX1_begin_16 (by decide) rfl ?_
  refine g_istore_n (n := 18) (i := 1) C dX1_begin_17 rfl (Nat.le_of_ble_eq_true rfl) rfl rfl (fun z4 ez4 => ?_)
  replace h := h z4 ez4
  exact g_sub [1, 0] rfl h
def B_Dealing_pickNext_i (p1 : Int32) (p2 : Nat) (post : Int32 → Mem → Prop) (R30 : Mem → Int32 → Prop) (R58 : Mem → Int32 → Prop) (M : Mem)  : Prop :=
  vp_in p1 7 ∧ (∀ z1 : Int32, z1 = (M 126 (p1).toNatClampNeg) → (((z1 < 0) → ∀ z2 : Int32, z2 = (z1 + (1 : Int32)) → (R30 M z2)) ∧ ((¬ z1 < 0) → ∀ M3 : Mem, M3 = mset M 124 7 ((M 124 7) &&& (((1 : Int32) <<< (z1 &&& 31)) ^^^ (-1 : Int32))) → ∀ z4 : Int32, z4 = (z1 + (1 : Int32)) → (R30 M3 z4))))
def B_Dealing_pickNext_30 (p1 : Int32) (p2 : Nat) (post : Int32 → Mem → Prop) (R30 : Mem → Int32 → Prop) (R58 : Mem → Int32 → Prop) (M : Mem) (x30_4 : Int32) : Prop :=
  ((((M 124 6) ≤ x30_4) → (R58 M x30_4)) ∧ ((¬ (M 124 6) ≤ x30_4) → (((¬ (((M 124 7) >>> (x30_4 &&& 31)) &&& (1 : Int32)) = (1 : Int32)) → (R58 M x30_4)) ∧ (((((M 124 7) >>> (x30_4 &&& 31)) &&& (1 : Int32)) = (1 : Int32)) → ∀ z5 : Int32, z5 = x30_4 + (1 : Int32) → (R30 M z5)))))
def B_Dealing_pickNext_58 (p1 : Int32) (p2 : Nat) (post : Int32 → Mem → Prop) (R30 : Mem → Int32 → Prop) (R58 : Mem → Int32 → Prop) (M : Mem) (x58_4 : Int32) : Prop :=
  (((x58_4 < (M 124 6)) → vp_in p1 7 ∧ (∀ M6 : Mem, M6 = mset M 126 (p1).toNatClampNeg x58_4 → ∀ M7 : Mem, M7 = mset M6 124 7 ((M6 124 7) ||| ((1 : Int32) <<< (x58_4 &&& 31))) → vp_in p1 7 ∧ (vp_in x58_4 7 ∧ (vp_in (M7 125 (x58_4).toNatClampNeg) 7 ∧ (vp_in (M7 125 (p1).toNatClampNeg) 7 ∧ (∀ M8 : Mem, M8 = mset M7 131 ((M7 125 (p1).toNatClampNeg)).toNatClampNeg (M7 (p2 + 3) ((M7 125 (x58_4).toNatClampNeg)).toNatClampNeg) → post (1 : Int32) M8)))))) ∧ ((¬ x58_4 < (M 124 6)) → vp_in p1 7 ∧ (vp_in (M 125 (p1).toNatClampNeg) 7 ∧ (∀ M9 : Mem, M9 = mset M 131 ((M 125 (p1).toNatClampNeg)).toNatClampNeg (M 124 8) → post (0 : Int32) M9))))
def P_Dealing_pickNext (M : Mem) (p1 : Int32) (p2 : Nat) (post : Int32 → Mem → Prop) : Prop :=
  ∀ (R30 : Mem → Int32 → Prop) (R58 : Mem → Int32 → Prop), (∀ (M : Mem) (x30_4 : Int32), B_Dealing_pickNext_30 p1 p2 post R30 R58 M x30_4 → R30 M x30_4) → (∀ (M : Mem) (x58_4 : Int32), B_Dealing_pickNext_58 p1 p2 post R30 R58 M x58_4 → R58 M x58_4) → B_Dealing_pickNext_i p1 p2 post R30 R58 M
set_option maxHeartbeats 4000000 in
set_option maxRecDepth 100000 in
theorem c_Dealing_pickNext {Z : ZT} (hZ : IsX Z) (l : Launch) (p1 : Int32) (p2 : Nat) (hp2 : Hh p2) (M : Mem) (post : Int32 → Mem → Prop) (h : P_Dealing_pickNext M p1 p2 post) : CtI Z l yX1_pickNext cX1_pickNext 5 (some .boolean) 0 0 [.ref (zb Z + 124), .int p1, .ref (zb Z + p2)] M post := by
  refine ctI (own := RX1) rfl (by decide) (Nat.le_of_ble_eq_true rfl) (fun X C E hr hQ => ?_)
  have s30 : ∀ (M : Mem) (x30_4 : Int32), B_Dealing_pickNext_30 p1 p2 post (fun (M : Mem) (x30_4 : Int32) => GS Z X 30 [(0, .ref (zb Z + 124)), (1, .int p1), (2, .ref (zb Z + p2)), (4, .int x30_4)] [] M) (fun (M : Mem) (x58_4 : Int32) => GS Z X 58 [(0, .ref (zb Z + 124)), (1, .int p1), (2, .ref (zb Z + p2)), (4, .int x58_4)] [] M) M x30_4 → GS Z X 30 [(0, .ref (zb Z + 124)), (1, .int p1), (2, .ref (zb Z + p2)), (4, .int x30_4)] [] M := by
    intro M x30_4 h
    unfold B_Dealing_pickNext_30 at h
    refine g_iload (n := 32) C dX1_pickNext_30 3 rfl rfl ?_
    refine g_aload_n (n := 33) (i := 0) C dX1_pickNext_32 rfl 0 rfl rfl ?_
    refine gf_X1_21 (n := 36) C E (ox_124 hZ) dX1_pickNext_33 rfl ?_
    refine g_icmp_ge (n := 39) (tgt := 58) C dX1_pickNext_36 (by decide) rfl (fun c => ?_) (fun c => ?_)
    · replace h := h.1 c
      exact g_sub [0, 1, 2, 3] rfl h
    · replace h := h.2 c
      refine g_aload_n (n := 40) (i := 0) C dX1_pickNext_39 rfl 0 rfl rfl ?_
      refine gf_X1_25 (n := 43) C E (ox_124 hZ) dX1_pickNext_40 rfl ?_
      refine g_iload (n := 45) C dX1_pickNext_43 3 rfl rfl ?_
      refine g_ishr (n := 46) C dX1_pickNext_45 rfl ?_
      refine g_iconst (n := 47) (1 : Int32) C dX1_pickNext_46 (by decide) rfl ?_
      refine g_iand (n := 48) C dX1_pickNext_47 rfl ?_
      refine g_iconst (n := 49) (1 : Int32) C dX1_pickNext_48 (by decide) rfl ?_
      refine g_icmp_ne (n := 52) (tgt := 58) C dX1_pickNext_49 (by decide) rfl (fun c => ?_) (fun c => ?_)
      · replace h := h.1 c
        exact g_sub [0, 1, 2, 3] rfl h
      · replace h := h.2 c
        refine g_iinc (n := 55) (v := (1 : Int32)) C dX1_pickNext_52 3 rfl (by decide) (Nat.le_of_ble_eq_true rfl) rfl rfl (fun z5 ez5 => ?_)
        replace h := h z5 ez5
        refine g_goto (tgt := 30) C dX1_pickNext_55 (by decide) ?_
        exact g_sub [1, 2, 3, 0] rfl h
  have s58 : ∀ (M : Mem) (x58_4 : Int32), B_Dealing_pickNext_58 p1 p2 post (fun (M : Mem) (x30_4 : Int32) => GS Z X 30 [(0, .ref (zb Z + 124)), (1, .int p1), (2, .ref (zb Z + p2)), (4, .int x30_4)] [] M) (fun (M : Mem) (x58_4 : Int32) => GS Z X 58 [(0, .ref (zb Z + 124)), (1, .int p1), (2, .ref (zb Z + p2)), (4, .int x58_4)] [] M) M x58_4 → GS Z X 58 [(0, .ref (zb Z + 124)), (1, .int p1), (2, .ref (zb Z + p2)), (4, .int x58_4)] [] M := by
    intro M x58_4 h
    unfold B_Dealing_pickNext_58 at h
    refine g_iload (n := 60) C dX1_pickNext_58 3 rfl rfl ?_
    refine g_aload_n (n := 61) (i := 0) C dX1_pickNext_60 rfl 0 rfl rfl ?_
    refine gf_X1_21 (n := 64) C E (ox_124 hZ) dX1_pickNext_61 rfl ?_
    refine g_icmp_lt (n := 67) (tgt := 87) C dX1_pickNext_64 (by decide) rfl (fun c => ?_) (fun c => ?_)
    · replace h := h.1 c
      refine g_aload_n (n := 88) (i := 0) C dX1_pickNext_87 rfl 0 rfl rfl ?_
      refine gf_X1_15 (n := 91) 126 C E (ox_124 hZ) rfl dX1_pickNext_88 rfl ?_
      refine g_iload_n (n := 92) (i := 1) C dX1_pickNext_91 rfl 1 rfl rfl ?_
      refine g_iload (n := 94) C dX1_pickNext_92 3 rfl rfl ?_
      refine g_iast (n := 95) C E (ox_126 hZ) h.1 dX1_pickNext_94 rfl (fun M6 eM6 => ?_)
      replace h := h.2 M6 eM6
      refine g_aload_n (n := 96) (i := 0) C dX1_pickNext_95 rfl 0 rfl rfl ?_
      refine g_dup (n := 97) C dX1_pickNext_96 rfl rfl ?_
      refine gf_X1_25 (n := 100) C E (ox_124 hZ) dX1_pickNext_97 rfl ?_
      refine g_iconst (n := 101) (1 : Int32) C dX1_pickNext_100 (by decide) rfl ?_
      refine g_iload (n := 103) C dX1_pickNext_101 3 rfl rfl ?_
      refine g_ishl (n := 104) C dX1_pickNext_103 rfl ?_
      refine g_ior (n := 105) C dX1_pickNext_104 rfl ?_
      refine gp_X1_25 (n := 108) C E (ox_124 hZ) dX1_pickNext_105 rfl (fun M7 eM7 => ?_)
      replace h := h M7 eM7
      refine g_aload_n (n := 109) (i := 0) C dX1_pickNext_108 rfl 0 rfl rfl ?_
      refine gf_X1_47 (n := 112) 128 C E (ox_124 hZ) rfl dX1_pickNext_109 rfl ?_
      refine gf_X1_87 (n := 115) 131 C E (ox_128 hZ) rfl dX1_pickNext_112 rfl ?_
      refine g_aload_n (n := 116) (i := 0) C dX1_pickNext_115 rfl 0 rfl rfl ?_
      refine gf_X1_9 (n := 119) 125 C E (ox_124 hZ) rfl dX1_pickNext_116 rfl ?_
      refine g_iload_n (n := 120) (i := 1) C dX1_pickNext_119 rfl 1 rfl rfl ?_
      refine g_iald (n := 121) C E (ox_125 hZ) h.1 dX1_pickNext_120 rfl ?_
      replace h := h.2
      refine g_aload_n (n := 122) (i := 2) C dX1_pickNext_121 rfl 2 rfl rfl ?_
      refine gf_X1_87 (n := 125) (p2 + 3) C E (Hh.o hZ hp2) rfl dX1_pickNext_122 rfl ?_
      refine g_aload_n (n := 126) (i := 0) C dX1_pickNext_125 rfl 0 rfl rfl ?_
      refine gf_X1_9 (n := 129) 125 C E (ox_124 hZ) rfl dX1_pickNext_126 rfl ?_
      refine g_iload (n := 131) C dX1_pickNext_129 3 rfl rfl ?_
      refine g_iald (n := 132) C E (ox_125 hZ) h.1 dX1_pickNext_131 rfl ?_
      replace h := h.2
      refine g_iald (n := 133) C E (Hh.f3 hZ hp2) h.1 dX1_pickNext_132 rfl ?_
      replace h := h.2
      refine g_iast (n := 134) C E (ox_131 hZ) h.1 dX1_pickNext_133 rfl (fun M8 eM8 => ?_)
      replace h := h.2 M8 eM8
      refine g_iconst (n := 135) (1 : Int32) C dX1_pickNext_134 (by decide) rfl ?_
      exact g_zret C hr hQ dX1_pickNext_135 rfl h
    · replace h := h.2 c
      refine g_aload_n (n := 68) (i := 0) C dX1_pickNext_67 rfl 0 rfl rfl ?_
      refine gf_X1_47 (n := 71) 128 C E (ox_124 hZ) rfl dX1_pickNext_68 rfl ?_
      refine gf_X1_87 (n := 74) 131 C E (ox_128 hZ) rfl dX1_pickNext_71 rfl ?_
      refine g_aload_n (n := 75) (i := 0) C dX1_pickNext_74 rfl 0 rfl rfl ?_
      refine gf_X1_9 (n := 78) 125 C E (ox_124 hZ) rfl dX1_pickNext_75 rfl ?_
      refine g_iload_n (n := 79) (i := 1) C dX1_pickNext_78 rfl 1 rfl rfl ?_
      refine g_iald (n := 80) C E (ox_125 hZ) h.1 dX1_pickNext_79 rfl ?_
      replace h := h.2
      refine g_aload_n (n := 81) (i := 0) C dX1_pickNext_80 rfl 0 rfl rfl ?_
      refine gf_X1_28 (n := 84) C E (ox_124 hZ) dX1_pickNext_81 rfl ?_
      refine g_iast (n := 85) C E (ox_131 hZ) h.1 dX1_pickNext_84 rfl (fun M9 eM9 => ?_)
      replace h := h.2 M9 eM9
      refine g_iconst (n := 86) (0 : Int32) C dX1_pickNext_85 (by decide) rfl ?_
      exact g_zret C hr hQ dX1_pickNext_86 rfl h
  replace h := h (fun (M : Mem) (x30_4 : Int32) => GS Z X 30 [(0, .ref (zb Z + 124)), (1, .int p1), (2, .ref (zb Z + p2)), (4, .int x30_4)] [] M) (fun (M : Mem) (x58_4 : Int32) => GS Z X 58 [(0, .ref (zb Z + 124)), (1, .int p1), (2, .ref (zb Z + p2)), (4, .int x58_4)] [] M) s30 s58
  unfold B_Dealing_pickNext_i at h
  show GS Z X 0 [(0, .ref (zb Z + 124)), (1, .int p1), (2, .ref (zb Z + p2))] [] M
  refine g_aload_n (n := 1) (i := 0) C dX1_pickNext_0 rfl 0 rfl rfl ?_
  refine gf_X1_15 (n := 4) 126 C E (ox_124 hZ) rfl dX1_pickNext_1 rfl ?_
  refine g_iload_n (n := 5) (i := 1) C dX1_pickNext_4 rfl 1 rfl rfl ?_
  refine g_iald (n := 6) C E (ox_126 hZ) h.1 dX1_pickNext_5 rfl ?_
  replace h := h.2
  refine g_istore_n (n := 7) (i := 3) C dX1_pickNext_6 rfl (Nat.le_of_ble_eq_true rfl) rfl rfl (fun z1 ez1 => ?_)
  replace h := h z1 ez1
  refine g_iload_n (n := 8) (i := 3) C dX1_pickNext_7 rfl 0 rfl rfl ?_
  refine g_if_lt (n := 11) (tgt := 25) C dX1_pickNext_8 (by decide) rfl (fun c => ?_) (fun c => ?_)
  · replace h := h.1 c
    refine g_iload_n (n := 26) (i := 3) C dX1_pickNext_25 rfl 0 rfl rfl ?_
    refine g_iconst (n := 27) (1 : Int32) C dX1_pickNext_26 (by decide) rfl ?_
    refine g_iadd (n := 28) C dX1_pickNext_27 rfl ?_
    refine g_istore (n := 30) (i := 4) C dX1_pickNext_28 (Nat.le_of_ble_eq_true rfl) rfl rfl (fun z2 ez2 => ?_)
    replace h := h z2 ez2
    exact g_sub [2, 3, 4, 0] rfl h
  · replace h := h.2 c
    refine g_aload_n (n := 12) (i := 0) C dX1_pickNext_11 rfl 1 rfl rfl ?_
    refine g_dup (n := 13) C dX1_pickNext_12 rfl rfl ?_
    refine gf_X1_25 (n := 16) C E (ox_124 hZ) dX1_pickNext_13 rfl ?_
    refine g_iconst (n := 17) (1 : Int32) C dX1_pickNext_16 (by decide) rfl ?_
    refine g_iload_n (n := 18) (i := 3) C dX1_pickNext_17 rfl 0 rfl rfl ?_
    refine g_ishl (n := 19) C dX1_pickNext_18 rfl ?_
    refine g_iconst (n := 20) (-1 : Int32) C dX1_pickNext_19 (by decide) rfl ?_
    refine g_ixor (n := 21) C dX1_pickNext_20 rfl ?_
    refine g_iand (n := 22) C dX1_pickNext_21 rfl ?_
    refine gp_X1_25 (n := 25) C E (ox_124 hZ) dX1_pickNext_22 rfl (fun M3 eM3 => ?_)
    replace h := h M3 eM3
    refine g_iload_n (n := 26) (i := 3) C dX1_pickNext_25 rfl 0 rfl rfl ?_
    refine g_iconst (n := 27) (1 : Int32) C dX1_pickNext_26 (by decide) rfl ?_
    refine g_iadd (n := 28) C dX1_pickNext_27 rfl ?_
    refine g_istore (n := 30) (i := 4) C dX1_pickNext_28 (Nat.le_of_ble_eq_true rfl) rfl rfl (fun z4 ez4 => ?_)
    replace h := h z4 ez4
    exact g_sub [2, 3, 4, 0] rfl h
def B_Dealing_writeDown_i  (post : Mem → Prop) (R2 : Mem → Int32 → Prop) (M : Mem)  : Prop :=
  ∀ z1 : Int32, z1 = (0 : Int32) → (R2 M z1)
def B_Dealing_writeDown_2  (post : Mem → Prop) (R2 : Mem → Int32 → Prop) (M : Mem) (x2_1 : Int32) : Prop :=
  ((((M 124 6) ≤ x2_1) → post M) ∧ ((¬ (M 124 6) ≤ x2_1) → vp_in x2_1 7 ∧ (vp_in x2_1 7 ∧ (vp_in (M 126 (x2_1).toNatClampNeg) 7 ∧ (vp_in (M 125 (x2_1).toNatClampNeg) 7 ∧ (∀ M2 : Mem, M2 = mset M 127 ((M 125 (x2_1).toNatClampNeg)).toNatClampNeg (M 125 ((M 126 (x2_1).toNatClampNeg)).toNatClampNeg) → ∀ z3 : Int32, z3 = x2_1 + (1 : Int32) → (R2 M2 z3)))))))
def P_Dealing_writeDown (M : Mem)  (post : Mem → Prop) : Prop :=
  ∀ (R2 : Mem → Int32 → Prop), (∀ (M : Mem) (x2_1 : Int32), B_Dealing_writeDown_2  post R2 M x2_1 → R2 M x2_1) → B_Dealing_writeDown_i  post R2 M
set_option maxHeartbeats 4000000 in
set_option maxRecDepth 100000 in
theorem c_Dealing_writeDown {Z : ZT} (hZ : IsX Z) (l : Launch)  (M : Mem) (post : Mem → Prop) (h : P_Dealing_writeDown M  post) : CtV Z l yX1_writeDown cX1_writeDown 2 none 0 0 [.ref (zb Z + 124)] M post := by
  refine ctV (own := RX1) rfl (by decide) (Nat.le_of_ble_eq_true rfl) (fun X C E hr hQ => ?_)
  have s2 : ∀ (M : Mem) (x2_1 : Int32), B_Dealing_writeDown_2  post (fun (M : Mem) (x2_1 : Int32) => GS Z X 2 [(0, .ref (zb Z + 124)), (1, .int x2_1)] [] M) M x2_1 → GS Z X 2 [(0, .ref (zb Z + 124)), (1, .int x2_1)] [] M := by
    intro M x2_1 h
    unfold B_Dealing_writeDown_2 at h
    refine g_iload_n (n := 3) (i := 1) C dX1_writeDown_2 rfl 1 rfl rfl ?_
    refine g_aload_n (n := 4) (i := 0) C dX1_writeDown_3 rfl 0 rfl rfl ?_
    refine gf_X1_21 (n := 7) C E (ox_124 hZ) dX1_writeDown_4 rfl ?_
    refine g_icmp_ge (n := 10) (tgt := 38) C dX1_writeDown_7 (by decide) rfl (fun c => ?_) (fun c => ?_)
    · replace h := h.1 c
      exact g_vret C hr hQ dX1_writeDown_38 h
    · replace h := h.2 c
      refine g_aload_n (n := 11) (i := 0) C dX1_writeDown_10 rfl 0 rfl rfl ?_
      refine gf_X1_18 (n := 14) 127 C E (ox_124 hZ) rfl dX1_writeDown_11 rfl ?_
      refine g_aload_n (n := 15) (i := 0) C dX1_writeDown_14 rfl 0 rfl rfl ?_
      refine gf_X1_9 (n := 18) 125 C E (ox_124 hZ) rfl dX1_writeDown_15 rfl ?_
      refine g_iload_n (n := 19) (i := 1) C dX1_writeDown_18 rfl 1 rfl rfl ?_
      refine g_iald (n := 20) C E (ox_125 hZ) h.1 dX1_writeDown_19 rfl ?_
      replace h := h.2
      refine g_aload_n (n := 21) (i := 0) C dX1_writeDown_20 rfl 0 rfl rfl ?_
      refine gf_X1_9 (n := 24) 125 C E (ox_124 hZ) rfl dX1_writeDown_21 rfl ?_
      refine g_aload_n (n := 25) (i := 0) C dX1_writeDown_24 rfl 0 rfl rfl ?_
      refine gf_X1_15 (n := 28) 126 C E (ox_124 hZ) rfl dX1_writeDown_25 rfl ?_
      refine g_iload_n (n := 29) (i := 1) C dX1_writeDown_28 rfl 1 rfl rfl ?_
      refine g_iald (n := 30) C E (ox_126 hZ) h.1 dX1_writeDown_29 rfl ?_
      replace h := h.2
      refine g_iald (n := 31) C E (ox_125 hZ) h.1 dX1_writeDown_30 rfl ?_
      replace h := h.2
      refine g_iast (n := 32) C E (ox_127 hZ) h.1 dX1_writeDown_31 rfl (fun M2 eM2 => ?_)
      replace h := h.2 M2 eM2
      refine g_iinc (n := 35) (v := (1 : Int32)) C dX1_writeDown_32 1 rfl (by decide) (Nat.le_of_ble_eq_true rfl) rfl rfl (fun z3 ez3 => ?_)
      replace h := h z3 ez3
      refine g_goto (tgt := 2) C dX1_writeDown_35 (by decide) ?_
      exact g_sub [1, 0] rfl h
  replace h := h (fun (M : Mem) (x2_1 : Int32) => GS Z X 2 [(0, .ref (zb Z + 124)), (1, .int x2_1)] [] M) s2
  unfold B_Dealing_writeDown_i at h
  show GS Z X 0 [(0, .ref (zb Z + 124))] [] M
  refine g_iconst (n := 1) (0 : Int32) C dX1_writeDown_0 (by decide) rfl ?_
  refine g_istore_n (n := 2) (i := 1) C dX1_writeDown_1 rfl (Nat.le_of_ble_eq_true rfl) rfl rfl (fun z1 ez1 => ?_)
  replace h := h z1 ez1
  exact g_sub [1, 0] rfl h
def B_Dealing_search_i (p1 : Nat) (post : Mem → Prop) (R22 : Mem → Int32 → Int32 → Prop) (M : Mem)  : Prop :=
  P_Outlook_lineUp M 136 128 (fun (M1 : Mem) => ∀ z2 : Int32, z2 = (0 : Int32) → vp_in (0 : Int32) 7 ∧ (∀ M3 : Mem, M3 = mset M1 126 ((0 : Int32)).toNatClampNeg (-1 : Int32) → ∀ z4 : Int32, z4 = (0 : Int32) → (R22 M3 z2 z4)))
def B_Dealing_search_22 (p1 : Nat) (post : Mem → Prop) (R22 : Mem → Int32 → Int32 → Prop) (M : Mem) (x22_2 : Int32) (x22_3 : Int32) : Prop :=
  ((((1000000 : Int32) ≤ x22_3) → post M) ∧ ((¬ (1000000 : Int32) ≤ x22_3) → (((x22_2 < 0) → post M) ∧ ((¬ x22_2 < 0) → ((((M 124 6) ≤ x22_2) → post M) ∧ ((¬ (M 124 6) ≤ x22_2) → P_Dealing_pickNext M x22_2 p1 (fun (r6 : Int32) (M5 : Mem) => (((¬ r6 = 0) → P_Outlook_reckon M5 136 128 (fun (M7 : Mem) => ((((M7 136 8) < (M7 124 9)) → (((¬ x22_2 = ((M7 124 6) - (1 : Int32))) → ∀ z8 : Int32, z8 = x22_2 + (1 : Int32) → vp_in z8 7 ∧ (∀ M9 : Mem, M9 = mset M7 126 (z8).toNatClampNeg (-1 : Int32) → ∀ z10 : Int32, z10 = x22_3 + (1 : Int32) → (R22 M9 z8 z10))) ∧ ((x22_2 = ((M7 124 6) - (1 : Int32))) → ∀ M11 : Mem, M11 = mset M7 124 9 (M7 136 8) → P_Dealing_writeDown M11 (fun (M12 : Mem) => ∀ z13 : Int32, z13 = x22_3 + (1 : Int32) → (R22 M12 x22_2 z13))))) ∧ ((¬ (M7 136 8) < (M7 124 9)) → ∀ z14 : Int32, z14 = x22_3 + (1 : Int32) → (R22 M7 x22_2 z14))))) ∧ ((r6 = 0) → ∀ z15 : Int32, z15 = x22_2 + (-1 : Int32) → ∀ z16 : Int32, z16 = x22_3 + (1 : Int32) → (R22 M5 z15 z16))))))))))
def P_Dealing_search (M : Mem) (p1 : Nat) (post : Mem → Prop) : Prop :=
  ∀ (R22 : Mem → Int32 → Int32 → Prop), (∀ (M : Mem) (x22_2 : Int32) (x22_3 : Int32), B_Dealing_search_22 p1 post R22 M x22_2 x22_3 → R22 M x22_2 x22_3) → B_Dealing_search_i p1 post R22 M
set_option maxHeartbeats 4000000 in
set_option maxRecDepth 100000 in
theorem c_Dealing_search {Z : ZT} (hZ : IsX Z) (l : Launch) (p1 : Nat) (hp1 : Hh p1) (M : Mem) (post : Mem → Prop) (h : P_Dealing_search M p1 post) : CtV Z l yX1_search cX1_search 4 none 4 93 [.ref (zb Z + 124), .ref (zb Z + p1)] M post := by
  refine ctV (own := RX1) rfl (by decide) (Nat.le_of_ble_eq_true rfl) (fun X C E hr hQ => ?_)
  have s22 : ∀ (M : Mem) (x22_2 : Int32) (x22_3 : Int32), B_Dealing_search_22 p1 post (fun (M : Mem) (x22_2 : Int32) (x22_3 : Int32) => GS Z X 22 [(0, .ref (zb Z + 124)), (1, .ref (zb Z + p1)), (2, .int x22_2), (3, .int x22_3)] [] M) M x22_2 x22_3 → GS Z X 22 [(0, .ref (zb Z + 124)), (1, .ref (zb Z + p1)), (2, .int x22_2), (3, .int x22_3)] [] M := by
    intro M x22_2 x22_3 h
    unfold B_Dealing_search_22 at h
    refine g_iload_n (n := 23) (i := 3) C dX1_search_22 rfl 3 rfl rfl ?_
    refine g_ldc (n := 25) (1000000 : Int32) C wd_657 dX1_search_23 rfl ?_
    refine g_icmp_ge (n := 28) (tgt := 127) C dX1_search_25 (by decide) rfl (fun c => ?_) (fun c => ?_)
    · replace h := h.1 c
      exact g_vret C hr hQ dX1_search_127 h
    · replace h := h.2 c
      refine g_iload_n (n := 29) (i := 2) C dX1_search_28 rfl 2 rfl rfl ?_
      refine g_if_lt (n := 32) (tgt := 127) C dX1_search_29 (by decide) rfl (fun c => ?_) (fun c => ?_)
      · replace h := h.1 c
        exact g_vret C hr hQ dX1_search_127 h
      · replace h := h.2 c
        refine g_iload_n (n := 33) (i := 2) C dX1_search_32 rfl 2 rfl rfl ?_
        refine g_aload_n (n := 34) (i := 0) C dX1_search_33 rfl 0 rfl rfl ?_
        refine gf_X1_21 (n := 37) C E (ox_124 hZ) dX1_search_34 rfl ?_
        refine g_icmp_ge (n := 40) (tgt := 127) C dX1_search_37 (by decide) rfl (fun c => ?_) (fun c => ?_)
        · replace h := h.1 c
          exact g_vret C hr hQ dX1_search_127 h
        · replace h := h.2 c
          refine g_aload_n (n := 41) (i := 0) C dX1_search_40 rfl 0 rfl rfl ?_
          refine g_iload_n (n := 42) (i := 2) C dX1_search_41 rfl 2 rfl rfl ?_
          refine g_aload_n (n := 43) (i := 1) C dX1_search_42 rfl 1 rfl rfl ?_
          refine g_callVi (n := 46) (kd := 1) C E (c_Dealing_pickNext hZ _ x22_2 p1 hp1 M _ h) yi_X1_pickNext wd_665 rfl (ox_124 hZ) (by decide) (Nat.le_of_ble_eq_true rfl) dX1_search_43 rfl rfl (fun r6 M5 h => ?_)
          refine g_if_ne (n := 49) (tgt := 55) C dX1_search_46 (by decide) rfl (fun c => ?_) (fun c => ?_)
          · replace h := h.1 c
            refine g_aload_n (n := 56) (i := 0) C dX1_search_55 rfl 0 rfl rfl ?_
            refine gf_X1_54 (n := 59) 136 C E (ox_124 hZ) rfl dX1_search_56 rfl ?_
            refine g_aload_n (n := 60) (i := 0) C dX1_search_59 rfl 0 rfl rfl ?_
            refine gf_X1_47 (n := 63) 128 C E (ox_124 hZ) rfl dX1_search_60 rfl ?_
            refine g_callNv (n := 66) (kd := 3) C E (c_Outlook_reckon hZ _ 136 (by unfold Ho; decide) 128 (by unfold Hh; decide) M5 _ h) yi_X3_reckon wn_669 rfl (ox_136 hZ) (by decide) (Nat.le_of_ble_eq_true rfl) dX1_search_63 rfl rfl (fun M7 h => ?_)
            refine g_aload_n (n := 67) (i := 0) C dX1_search_66 rfl 0 rfl rfl ?_
            refine gf_X1_54 (n := 70) 136 C E (ox_124 hZ) rfl dX1_search_67 rfl ?_
            refine gf_X1_74 (n := 73) C E (ox_136 hZ) dX1_search_70 rfl ?_
            refine g_aload_n (n := 74) (i := 0) C dX1_search_73 rfl 0 rfl rfl ?_
            refine gf_X1_31 (n := 77) C E (ox_124 hZ) dX1_search_74 rfl ?_
            refine g_icmp_lt (n := 80) (tgt := 83) C dX1_search_77 (by decide) rfl (fun c => ?_) (fun c => ?_)
            · replace h := h.1 c
              refine g_iload_n (n := 84) (i := 2) C dX1_search_83 rfl 2 rfl rfl ?_
              refine g_aload_n (n := 85) (i := 0) C dX1_search_84 rfl 0 rfl rfl ?_
              refine gf_X1_21 (n := 88) C E (ox_124 hZ) dX1_search_85 rfl ?_
              refine g_iconst (n := 89) (1 : Int32) C dX1_search_88 (by decide) rfl ?_
              refine g_isub (n := 90) C dX1_search_89 rfl ?_
              refine g_icmp_ne (n := 93) (tgt := 111) C dX1_search_90 (by decide) rfl (fun c => ?_) (fun c => ?_)
              · replace h := h.1 c
                refine g_iinc (n := 114) (v := (1 : Int32)) C dX1_search_111 2 rfl (by decide) (Nat.le_of_ble_eq_true rfl) rfl rfl (fun z8 ez8 => ?_)
                replace h := h z8 ez8
                refine g_aload_n (n := 115) (i := 0) C dX1_search_114 rfl 1 rfl rfl ?_
                refine gf_X1_15 (n := 118) 126 C E (ox_124 hZ) rfl dX1_search_115 rfl ?_
                refine g_iload_n (n := 119) (i := 2) C dX1_search_118 rfl 0 rfl rfl ?_
                refine g_iconst (n := 120) (-1 : Int32) C dX1_search_119 (by decide) rfl ?_
                refine g_iast (n := 121) C E (ox_126 hZ) h.1 dX1_search_120 rfl (fun M9 eM9 => ?_)
                replace h := h.2 M9 eM9
                refine g_iinc (n := 124) (v := (1 : Int32)) C dX1_search_121 3 rfl (by decide) (Nat.le_of_ble_eq_true rfl) rfl rfl (fun z10 ez10 => ?_)
                replace h := h z10 ez10
                refine g_goto (tgt := 22) C dX1_search_124 (by decide) ?_
                exact g_sub [2, 3, 1, 0] rfl h
              · replace h := h.2 c
                refine g_aload_n (n := 94) (i := 0) C dX1_search_93 rfl 0 rfl rfl ?_
                refine g_aload_n (n := 95) (i := 0) C dX1_search_94 rfl 0 rfl rfl ?_
                refine gf_X1_54 (n := 98) 136 C E (ox_124 hZ) rfl dX1_search_95 rfl ?_
                refine gf_X1_74 (n := 101) C E (ox_136 hZ) dX1_search_98 rfl ?_
                refine gp_X1_31 (n := 104) C E (ox_124 hZ) dX1_search_101 rfl (fun M11 eM11 => ?_)
                replace h := h M11 eM11
                refine g_aload_n (n := 105) (i := 0) C dX1_search_104 rfl 0 rfl rfl ?_
                refine g_callVv (n := 108) (kd := 1) C E (c_Dealing_writeDown hZ _  M11 _ h) yi_X1_writeDown wd_670 rfl (ox_124 hZ) (by decide) (Nat.le_of_ble_eq_true rfl) dX1_search_105 rfl rfl (fun M12 h => ?_)
                refine g_goto (tgt := 121) C dX1_search_108 (by decide) ?_
                refine g_iinc (n := 124) (v := (1 : Int32)) C dX1_search_121 3 rfl (by decide) (Nat.le_of_ble_eq_true rfl) rfl rfl (fun z13 ez13 => ?_)
                replace h := h z13 ez13
                refine g_goto (tgt := 22) C dX1_search_124 (by decide) ?_
                exact g_sub [1, 2, 3, 0] rfl h
            · replace h := h.2 c
              refine g_goto (tgt := 121) C dX1_search_80 (by decide) ?_
              refine g_iinc (n := 124) (v := (1 : Int32)) C dX1_search_121 3 rfl (by decide) (Nat.le_of_ble_eq_true rfl) rfl rfl (fun z14 ez14 => ?_)
              replace h := h z14 ez14
              refine g_goto (tgt := 22) C dX1_search_124 (by decide) ?_
              exact g_sub [1, 2, 3, 0] rfl h
          · replace h := h.2 c
            refine g_iinc (n := 52) (v := (-1 : Int32)) C dX1_search_49 2 rfl (by decide) (Nat.le_of_ble_eq_true rfl) rfl rfl (fun z15 ez15 => ?_)
            replace h := h z15 ez15
            refine g_goto (tgt := 121) C dX1_search_52 (by decide) ?_
            refine g_iinc (n := 124) (v := (1 : Int32)) C dX1_search_121 3 rfl (by decide) (Nat.le_of_ble_eq_true rfl) rfl rfl (fun z16 ez16 => ?_)
            replace h := h z16 ez16
            refine g_goto (tgt := 22) C dX1_search_124 (by decide) ?_
            exact g_sub [2, 3, 1, 0] rfl h
  replace h := h (fun (M : Mem) (x22_2 : Int32) (x22_3 : Int32) => GS Z X 22 [(0, .ref (zb Z + 124)), (1, .ref (zb Z + p1)), (2, .int x22_2), (3, .int x22_3)] [] M) s22
  unfold B_Dealing_search_i at h
  show GS Z X 0 [(0, .ref (zb Z + 124)), (1, .ref (zb Z + p1))] [] M
  refine g_aload_n (n := 1) (i := 0) C dX1_search_0 rfl 0 rfl rfl ?_
  refine gf_X1_54 (n := 4) 136 C E (ox_124 hZ) rfl dX1_search_1 rfl ?_
  refine g_aload_n (n := 5) (i := 0) C dX1_search_4 rfl 0 rfl rfl ?_
  refine gf_X1_47 (n := 8) 128 C E (ox_124 hZ) rfl dX1_search_5 rfl ?_
  refine g_callNv (n := 11) (kd := 3) C E (c_Outlook_lineUp hZ _ 136 (by unfold Ho; decide) 128 (by unfold Hh; decide) M _ h) yi_X3_lineUp wn_664 rfl (ox_136 hZ) (by decide) (Nat.le_of_ble_eq_true rfl) dX1_search_8 rfl rfl (fun M1 h => ?_)
  refine g_iconst (n := 12) (0 : Int32) C dX1_search_11 (by decide) rfl ?_
  refine g_istore_n (n := 13) (i := 2) C dX1_search_12 rfl (Nat.le_of_ble_eq_true rfl) rfl rfl (fun z2 ez2 => ?_)
  replace h := h z2 ez2
  refine g_aload_n (n := 14) (i := 0) C dX1_search_13 rfl 1 rfl rfl ?_
  refine gf_X1_15 (n := 17) 126 C E (ox_124 hZ) rfl dX1_search_14 rfl ?_
  refine g_iconst (n := 18) (0 : Int32) C dX1_search_17 (by decide) rfl ?_
  refine g_iconst (n := 19) (-1 : Int32) C dX1_search_18 (by decide) rfl ?_
  refine g_iast (n := 20) C E (ox_126 hZ) h.1 dX1_search_19 rfl (fun M3 eM3 => ?_)
  replace h := h.2 M3 eM3
  refine g_iconst (n := 21) (0 : Int32) C dX1_search_20 (by decide) rfl ?_
  refine g_istore_n (n := 22) (i := 3) C dX1_search_21 rfl (Nat.le_of_ble_eq_true rfl) rfl rfl (fun z4 ez4 => ?_)
  replace h := h z4 ez4
  exact g_sub [2, 3, 1, 0] rfl h
def B_Dealing_refresh_i (p1 : Nat) (post : Mem → Prop)  (M : Mem)  : Prop :=
  (((¬ (M 124 10) = 0) → ∀ M1 : Mem, M1 = mset M 124 10 (0 : Int32) → P_House_copyFrom M1 128 p1 (fun (M2 : Mem) => P_Dealing_begin M2 (fun (M3 : Mem) => (((¬ (M3 124 6) = 0) → ∀ M4 : Mem, M4 = mset M3 124 9 (100 : Int32) → P_Dealing_search M4 p1 (fun (M5 : Mem) => post M5)) ∧ (((M3 124 6) = 0) → P_Outlook_look M3 136 128 (fun (M6 : Mem) => ∀ M7 : Mem, M7 = mset M6 124 9 (M6 136 8) → post M7)))))) ∧ (((M 124 10) = 0) → post M))
def P_Dealing_refresh (M : Mem) (p1 : Nat) (post : Mem → Prop) : Prop := B_Dealing_refresh_i p1 post M
set_option maxHeartbeats 4000000 in
set_option maxRecDepth 100000 in
theorem c_Dealing_refresh {Z : ZT} (hZ : IsX Z) (l : Launch) (p1 : Nat) (hp1 : Hh p1) (M : Mem) (post : Mem → Prop) (h : P_Dealing_refresh M p1 post) : CtV Z l yX1_refresh cX1_refresh 2 none 5 116 [.ref (zb Z + 124), .ref (zb Z + p1)] M post := by
  refine ctV (own := RX1) rfl (by decide) (Nat.le_of_ble_eq_true rfl) (fun X C E hr hQ => ?_)
  unfold P_Dealing_refresh at h
  unfold B_Dealing_refresh_i at h
  show GS Z X 0 [(0, .ref (zb Z + 124)), (1, .ref (zb Z + p1))] [] M
  refine g_aload_n (n := 1) (i := 0) C dX1_refresh_0 rfl 0 rfl rfl ?_
  refine gf_X1_34 (n := 4) C E (ox_124 hZ) dX1_refresh_1 rfl ?_
  refine g_if_ne (n := 7) (tgt := 8) C dX1_refresh_4 (by decide) rfl (fun c => ?_) (fun c => ?_)
  · replace h := h.1 c
    refine g_aload_n (n := 9) (i := 0) C dX1_refresh_8 rfl 0 rfl rfl ?_
    refine g_iconst (n := 10) (0 : Int32) C dX1_refresh_9 (by decide) rfl ?_
    refine gp_X1_34 (n := 13) C E (ox_124 hZ) rfl rfl dX1_refresh_10 rfl (fun M1 eM1 => ?_)
    replace h := h M1 eM1
    refine g_aload_n (n := 14) (i := 0) C dX1_refresh_13 rfl 0 rfl rfl ?_
    refine gf_X1_47 (n := 17) 128 C E (ox_124 hZ) rfl dX1_refresh_14 rfl ?_
    refine g_aload_n (n := 18) (i := 1) C dX1_refresh_17 rfl 1 rfl rfl ?_
    refine g_callNv (n := 21) (kd := 2) C E (c_House_copyFrom hZ _ 128 (by unfold Hh; decide) p1 hp1 M1 _ h) yi_X2_copyFrom wn_652 rfl (ox_128 hZ) (by decide) (Nat.le_of_ble_eq_true rfl) dX1_refresh_18 rfl rfl (fun M2 h => ?_)
    refine g_aload_n (n := 22) (i := 0) C dX1_refresh_21 rfl 0 rfl rfl ?_
    refine g_callVv (n := 25) (kd := 1) C E (c_Dealing_begin hZ _  M2 _ h) yi_X1_begin wd_653 rfl (ox_124 hZ) (by decide) (Nat.le_of_ble_eq_true rfl) dX1_refresh_22 rfl rfl (fun M3 h => ?_)
    refine g_aload_n (n := 26) (i := 0) C dX1_refresh_25 rfl 0 rfl rfl ?_
    refine gf_X1_21 (n := 29) C E (ox_124 hZ) dX1_refresh_26 rfl ?_
    refine g_if_ne (n := 32) (tgt := 57) C dX1_refresh_29 (by decide) rfl (fun c => ?_) (fun c => ?_)
    · replace h := h.1 c
      refine g_aload_n (n := 58) (i := 0) C dX1_refresh_57 rfl 0 rfl rfl ?_
      refine g_bipush (n := 60) (100 : Int32) C dX1_refresh_58 (by decide) rfl ?_
      refine gp_X1_31 (n := 63) C E (ox_124 hZ) dX1_refresh_60 rfl (fun M4 eM4 => ?_)
      replace h := h M4 eM4
      refine g_aload_n (n := 64) (i := 0) C dX1_refresh_63 rfl 0 rfl rfl ?_
      refine g_aload_n (n := 65) (i := 1) C dX1_refresh_64 rfl 1 rfl rfl ?_
      refine g_callVv (n := 68) (kd := 1) C E (c_Dealing_search hZ _ p1 hp1 M4 _ h) yi_X1_search wd_660 rfl (ox_124 hZ) (by decide) (Nat.le_of_ble_eq_true rfl) dX1_refresh_65 rfl rfl (fun M5 h => ?_)
      exact g_vret C hr hQ dX1_refresh_68 h
    · replace h := h.2 c
      refine g_aload_n (n := 33) (i := 0) C dX1_refresh_32 rfl 0 rfl rfl ?_
      refine gf_X1_54 (n := 36) 136 C E (ox_124 hZ) rfl dX1_refresh_33 rfl ?_
      refine g_aload_n (n := 37) (i := 0) C dX1_refresh_36 rfl 0 rfl rfl ?_
      refine gf_X1_47 (n := 40) 128 C E (ox_124 hZ) rfl dX1_refresh_37 rfl ?_
      refine g_callNv (n := 43) (kd := 3) C E (c_Outlook_look hZ _ 136 (by unfold Ho; decide) 128 (by unfold Hh; decide) M3 _ h) yi_X3_look wn_659 rfl (ox_136 hZ) (by decide) (Nat.le_of_ble_eq_true rfl) dX1_refresh_40 rfl rfl (fun M6 h => ?_)
      refine g_aload_n (n := 44) (i := 0) C dX1_refresh_43 rfl 0 rfl rfl ?_
      refine g_aload_n (n := 45) (i := 0) C dX1_refresh_44 rfl 0 rfl rfl ?_
      refine gf_X1_54 (n := 48) 136 C E (ox_124 hZ) rfl dX1_refresh_45 rfl ?_
      refine gf_X1_74 (n := 51) C E (ox_136 hZ) dX1_refresh_48 rfl ?_
      refine gp_X1_31 (n := 54) C E (ox_124 hZ) dX1_refresh_51 rfl (fun M7 eM7 => ?_)
      replace h := h M7 eM7
      refine g_goto (tgt := 68) C dX1_refresh_54 (by decide) ?_
      exact g_vret C hr hQ dX1_refresh_68 h
  · replace h := h.2 c
    exact g_vret C hr hQ dX1_refresh_7 h
