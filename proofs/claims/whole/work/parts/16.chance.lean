def B_Chance_weightOf_i (p1 : Int32) (p2 : Int32) (post : Int32 → Mem → Prop) (R5 : Mem → Int32 → Int32 → Prop) (M : Mem)  : Prop :=
  ∀ z1 : Int32, z1 = (1 : Int32) → ∀ z2 : Int32, z2 = (0 : Int32) → (R5 M z1 z2)
def B_Chance_weightOf_5 (p1 : Int32) (p2 : Int32) (post : Int32 → Mem → Prop) (R5 : Mem → Int32 → Int32 → Prop) (M : Mem) (x5_3 : Int32) (x5_4 : Int32) : Prop :=
  ((((M 148 4) ≤ x5_4) → post x5_3 M) ∧ ((¬ (M 148 4) ≤ x5_4) → (((¬ ((p1 >>> (x5_4 &&& 31)) &&& (1 : Int32)) = (1 : Int32)) → ∀ z3 : Int32, z3 = (x5_3 * ((10 : Int32) - p2)) → ∀ z4 : Int32, z4 = x5_4 + (1 : Int32) → (R5 M z3 z4)) ∧ ((((p1 >>> (x5_4 &&& 31)) &&& (1 : Int32)) = (1 : Int32)) → ∀ z5 : Int32, z5 = (x5_3 * p2) → ∀ z6 : Int32, z6 = x5_4 + (1 : Int32) → (R5 M z5 z6)))))
def P_Chance_weightOf (M : Mem) (p1 : Int32) (p2 : Int32) (post : Int32 → Mem → Prop) : Prop :=
  ∀ (R5 : Mem → Int32 → Int32 → Prop), (∀ (M : Mem) (x5_3 : Int32) (x5_4 : Int32), B_Chance_weightOf_5 p1 p2 post R5 M x5_3 x5_4 → R5 M x5_3 x5_4) → B_Chance_weightOf_i p1 p2 post R5 M
set_option maxHeartbeats 4000000 in
set_option maxRecDepth 100000 in
theorem c_Chance_weightOf {Z : ZT} (hZ : IsX Z) (l : Launch) (p1 : Int32) (p2 : Int32) (M : Mem) (post : Int32 → Mem → Prop) (h : P_Chance_weightOf M p1 p2 post) : CtI Z l yX0_weightOf cX0_weightOf 5 (some .int) 0 0 [.ref (zb Z + 148), .int p1, .int p2] M post := by
  refine ctI (own := RX0) rfl (by decide) (Nat.le_of_ble_eq_true rfl) (fun X C E hr hQ => ?_)
  have s5 : ∀ (M : Mem) (x5_3 : Int32) (x5_4 : Int32), B_Chance_weightOf_5 p1 p2 post (fun (M : Mem) (x5_3 : Int32) (x5_4 : Int32) => GS Z X 5 [(0, .ref (zb Z + 148)), (1, .int p1), (2, .int p2), (3, .int x5_3), (4, .int x5_4)] [] M) M x5_3 x5_4 → GS Z X 5 [(0, .ref (zb Z + 148)), (1, .int p1), (2, .int p2), (3, .int x5_3), (4, .int x5_4)] [] M := by
    intro M x5_3 x5_4 h
    unfold B_Chance_weightOf_5 at h
    refine g_iload (n := 7) C dX0_weightOf_5 4 rfl rfl ?_
    refine g_aload_n (n := 8) (i := 0) C dX0_weightOf_7 rfl 0 rfl rfl ?_
    refine gf_X0_15 (n := 11) C E (ox_148 hZ) dX0_weightOf_8 rfl ?_
    refine g_icmp_ge (n := 14) (tgt := 41) C dX0_weightOf_11 (by decide) rfl (fun c => ?_) (fun c => ?_)
    · replace h := h.1 c
      refine g_iload_n (n := 42) (i := 3) C dX0_weightOf_41 rfl 3 rfl rfl ?_
      exact g_iret C hr hQ dX0_weightOf_42 h
    · replace h := h.2 c
      refine g_iload_n (n := 15) (i := 3) C dX0_weightOf_14 rfl 3 rfl rfl ?_
      refine g_iload_n (n := 16) (i := 1) C dX0_weightOf_15 rfl 1 rfl rfl ?_
      refine g_iload (n := 18) C dX0_weightOf_16 4 rfl rfl ?_
      refine g_ishr (n := 19) C dX0_weightOf_18 rfl ?_
      refine g_iconst (n := 20) (1 : Int32) C dX0_weightOf_19 (by decide) rfl ?_
      refine g_iand (n := 21) C dX0_weightOf_20 rfl ?_
      refine g_iconst (n := 22) (1 : Int32) C dX0_weightOf_21 (by decide) rfl ?_
      refine g_icmp_ne (n := 25) (tgt := 29) C dX0_weightOf_22 (by decide) rfl (fun c => ?_) (fun c => ?_)
      · replace h := h.1 c
        refine g_bipush (n := 31) (10 : Int32) C dX0_weightOf_29 (by decide) rfl ?_
        refine g_iload_n (n := 32) (i := 2) C dX0_weightOf_31 rfl 2 rfl rfl ?_
        refine g_isub (n := 33) C dX0_weightOf_32 rfl ?_
        refine g_imul (n := 34) C dX0_weightOf_33 rfl ?_
        refine g_istore_n (n := 35) (i := 3) C dX0_weightOf_34 rfl (Nat.le_of_ble_eq_true rfl) rfl rfl (fun z3 ez3 => ?_)
        replace h := h z3 ez3
        refine g_iinc (n := 38) (v := (1 : Int32)) C dX0_weightOf_35 4 rfl (by decide) (Nat.le_of_ble_eq_true rfl) rfl rfl (fun z4 ez4 => ?_)
        replace h := h z4 ez4
        refine g_goto (tgt := 5) C dX0_weightOf_38 (by decide) ?_
        exact g_sub [2, 3, 4, 1, 0] rfl h
      · replace h := h.2 c
        refine g_iload_n (n := 26) (i := 2) C dX0_weightOf_25 rfl 2 rfl rfl ?_
        refine g_goto (tgt := 33) C dX0_weightOf_26 (by decide) ?_
        refine g_imul (n := 34) C dX0_weightOf_33 rfl ?_
        refine g_istore_n (n := 35) (i := 3) C dX0_weightOf_34 rfl (Nat.le_of_ble_eq_true rfl) rfl rfl (fun z5 ez5 => ?_)
        replace h := h z5 ez5
        refine g_iinc (n := 38) (v := (1 : Int32)) C dX0_weightOf_35 4 rfl (by decide) (Nat.le_of_ble_eq_true rfl) rfl rfl (fun z6 ez6 => ?_)
        replace h := h z6 ez6
        refine g_goto (tgt := 5) C dX0_weightOf_38 (by decide) ?_
        exact g_sub [2, 3, 4, 1, 0] rfl h
  replace h := h (fun (M : Mem) (x5_3 : Int32) (x5_4 : Int32) => GS Z X 5 [(0, .ref (zb Z + 148)), (1, .int p1), (2, .int p2), (3, .int x5_3), (4, .int x5_4)] [] M) s5
  unfold B_Chance_weightOf_i at h
  show GS Z X 0 [(0, .ref (zb Z + 148)), (1, .int p1), (2, .int p2)] [] M
  refine g_iconst (n := 1) (1 : Int32) C dX0_weightOf_0 (by decide) rfl ?_
  refine g_istore_n (n := 2) (i := 3) C dX0_weightOf_1 rfl (Nat.le_of_ble_eq_true rfl) rfl rfl (fun z1 ez1 => ?_)
  replace h := h z1 ez1
  refine g_iconst (n := 3) (0 : Int32) C dX0_weightOf_2 (by decide) rfl ?_
  refine g_istore (n := 5) (i := 4) C dX0_weightOf_3 (Nat.le_of_ble_eq_true rfl) rfl rfl (fun z2 ez2 => ?_)
  replace h := h z2 ez2
  exact g_sub [2, 3, 4, 1, 0] rfl h
def B_Chance_isFreeWithout_i (p1 : Int32) (p2 : Int32) (post : Int32 → Mem → Prop) (R2 : Mem → Int32 → Prop) (M : Mem)  : Prop :=
  ∀ z1 : Int32, z1 = (0 : Int32) → (R2 M z1)
def B_Chance_isFreeWithout_2 (p1 : Int32) (p2 : Int32) (post : Int32 → Mem → Prop) (R2 : Mem → Int32 → Prop) (M : Mem) (x2_3 : Int32) : Prop :=
  ((((M 148 4) ≤ x2_3) → P_Outlook_look M 158 150 (fun (M2 : Mem) => P_Plan_has M2 4 p2 (fun (r4 : Int32) (M3 : Mem) => (((r4 = 0) → post (0 : Int32) M3) ∧ ((¬ r4 = 0) → vp_in p2 7 ∧ (((((99 : Int32) < (M3 162 (p2).toNatClampNeg)) → post (0 : Int32) M3) ∧ ((¬ (99 : Int32) < (M3 162 (p2).toNatClampNeg)) → post (1 : Int32) M3)))))))) ∧ ((¬ (M 148 4) ≤ x2_3) → vp_in x2_3 7 ∧ ((((¬ ((p1 >>> (x2_3 &&& 31)) &&& (1 : Int32)) = (1 : Int32)) → vp_in (M 149 (x2_3).toNatClampNeg) 7 ∧ (∀ M5 : Mem, M5 = mset M 151 ((M 149 (x2_3).toNatClampNeg)).toNatClampNeg (0 : Int32) → ∀ z6 : Int32, z6 = x2_3 + (1 : Int32) → (R2 M5 z6))) ∧ ((((p1 >>> (x2_3 &&& 31)) &&& (1 : Int32)) = (1 : Int32)) → vp_in (M 149 (x2_3).toNatClampNeg) 7 ∧ (∀ M7 : Mem, M7 = mset M 151 ((M 149 (x2_3).toNatClampNeg)).toNatClampNeg (3 : Int32) → ∀ z8 : Int32, z8 = x2_3 + (1 : Int32) → (R2 M7 z8)))))))
def P_Chance_isFreeWithout (M : Mem) (p1 : Int32) (p2 : Int32) (post : Int32 → Mem → Prop) : Prop :=
  ∀ (R2 : Mem → Int32 → Prop), (∀ (M : Mem) (x2_3 : Int32), B_Chance_isFreeWithout_2 p1 p2 post R2 M x2_3 → R2 M x2_3) → B_Chance_isFreeWithout_i p1 p2 post R2 M
set_option maxHeartbeats 4000000 in
set_option maxRecDepth 100000 in
theorem c_Chance_isFreeWithout {Z : ZT} (hZ : IsX Z) (l : Launch) (p1 : Int32) (p2 : Int32) (M : Mem) (post : Int32 → Mem → Prop) (h : P_Chance_isFreeWithout M p1 p2 post) : CtI Z l yX0_isFreeWithout cX0_isFreeWithout 4 (some .boolean) 5 114 [.ref (zb Z + 148), .int p1, .int p2] M post := by
  refine ctI (own := RX0) rfl (by decide) (Nat.le_of_ble_eq_true rfl) (fun X C E hr hQ => ?_)
  have s2 : ∀ (M : Mem) (x2_3 : Int32), B_Chance_isFreeWithout_2 p1 p2 post (fun (M : Mem) (x2_3 : Int32) => GS Z X 2 [(0, .ref (zb Z + 148)), (1, .int p1), (2, .int p2), (3, .int x2_3)] [] M) M x2_3 → GS Z X 2 [(0, .ref (zb Z + 148)), (1, .int p1), (2, .int p2), (3, .int x2_3)] [] M := by
    intro M x2_3 h
    unfold B_Chance_isFreeWithout_2 at h
    refine g_iload_n (n := 3) (i := 3) C dX0_isFreeWithout_2 rfl 3 rfl rfl ?_
    refine g_aload_n (n := 4) (i := 0) C dX0_isFreeWithout_3 rfl 0 rfl rfl ?_
    refine gf_X0_15 (n := 7) C E (ox_148 hZ) dX0_isFreeWithout_4 rfl ?_
    refine g_icmp_ge (n := 10) (tgt := 44) C dX0_isFreeWithout_7 (by decide) rfl (fun c => ?_) (fun c => ?_)
    · replace h := h.1 c
      refine g_aload_n (n := 45) (i := 0) C dX0_isFreeWithout_44 rfl 0 rfl rfl ?_
      refine gf_X0_41 (n := 48) 158 C E (ox_148 hZ) rfl dX0_isFreeWithout_45 rfl ?_
      refine g_aload_n (n := 49) (i := 0) C dX0_isFreeWithout_48 rfl 0 rfl rfl ?_
      refine gf_X0_34 (n := 52) 150 C E (ox_148 hZ) rfl dX0_isFreeWithout_49 rfl ?_
      refine g_callNv (n := 55) (kd := 3) C E (c_Outlook_look hZ _ 158 (by unfold Ho; decide) 150 (by unfold Hh; decide) M _ h) yi_X3_look wn_750 rfl (ox_158 hZ) (by decide) (Nat.le_of_ble_eq_true rfl) dX0_isFreeWithout_52 rfl rfl (fun M2 h => ?_)
      refine g_aload_n (n := 56) (i := 0) C dX0_isFreeWithout_55 rfl 0 rfl rfl ?_
      refine gf_X0_25 (n := 59) C E (ox_148 hZ) dX0_isFreeWithout_56 rfl ?_
      refine g_iload_n (n := 60) (i := 2) C dX0_isFreeWithout_59 rfl 2 rfl rfl ?_
      refine g_callNi (n := 63) (kd := 4) C E (c_Plan_has hZ _ 4 (by unfold Hp; decide) p2 M2 _ h) yi_X4_has wn_751 rfl (ox_4 hZ) (by decide) (Nat.le_of_ble_eq_true rfl) dX0_isFreeWithout_60 rfl rfl (fun r4 M3 h => ?_)
      refine g_if_eq (n := 66) (tgt := 84) C dX0_isFreeWithout_63 (by decide) rfl (fun c => ?_) (fun c => ?_)
      · replace h := h.1 c
        refine g_iconst (n := 85) (0 : Int32) C dX0_isFreeWithout_84 (by decide) rfl ?_
        exact g_zret C hr hQ dX0_isFreeWithout_85 rfl h
      · replace h := h.2 c
        refine g_aload_n (n := 67) (i := 0) C dX0_isFreeWithout_66 rfl 0 rfl rfl ?_
        refine gf_X0_41 (n := 70) 158 C E (ox_148 hZ) rfl dX0_isFreeWithout_67 rfl ?_
        refine gf_X0_75 (n := 73) 162 C E (ox_158 hZ) rfl dX0_isFreeWithout_70 rfl ?_
        refine g_iload_n (n := 74) (i := 2) C dX0_isFreeWithout_73 rfl 2 rfl rfl ?_
        refine g_iald (n := 75) C E (ox_162 hZ) h.1 dX0_isFreeWithout_74 rfl ?_
        replace h := h.2
        refine g_bipush (n := 77) (99 : Int32) C dX0_isFreeWithout_75 (by decide) rfl ?_
        refine g_icmp_gt (n := 80) (tgt := 84) C dX0_isFreeWithout_77 (by decide) rfl (fun c => ?_) (fun c => ?_)
        · replace h := h.1 c
          refine g_iconst (n := 85) (0 : Int32) C dX0_isFreeWithout_84 (by decide) rfl ?_
          exact g_zret C hr hQ dX0_isFreeWithout_85 rfl h
        · replace h := h.2 c
          refine g_iconst (n := 81) (1 : Int32) C dX0_isFreeWithout_80 (by decide) rfl ?_
          refine g_goto (tgt := 85) C dX0_isFreeWithout_81 (by decide) ?_
          exact g_zret C hr hQ dX0_isFreeWithout_85 rfl h
    · replace h := h.2 c
      refine g_aload_n (n := 11) (i := 0) C dX0_isFreeWithout_10 rfl 0 rfl rfl ?_
      refine gf_X0_34 (n := 14) 150 C E (ox_148 hZ) rfl dX0_isFreeWithout_11 rfl ?_
      refine gf_X0_50 (n := 17) 151 C E (ox_150 hZ) rfl dX0_isFreeWithout_14 rfl ?_
      refine g_aload_n (n := 18) (i := 0) C dX0_isFreeWithout_17 rfl 0 rfl rfl ?_
      refine gf_X0_9 (n := 21) 149 C E (ox_148 hZ) rfl dX0_isFreeWithout_18 rfl ?_
      refine g_iload_n (n := 22) (i := 3) C dX0_isFreeWithout_21 rfl 3 rfl rfl ?_
      refine g_iald (n := 23) C E (ox_149 hZ) h.1 dX0_isFreeWithout_22 rfl ?_
      replace h := h.2
      refine g_iload_n (n := 24) (i := 1) C dX0_isFreeWithout_23 rfl 1 rfl rfl ?_
      refine g_iload_n (n := 25) (i := 3) C dX0_isFreeWithout_24 rfl 3 rfl rfl ?_
      refine g_ishr (n := 26) C dX0_isFreeWithout_25 rfl ?_
      refine g_iconst (n := 27) (1 : Int32) C dX0_isFreeWithout_26 (by decide) rfl ?_
      refine g_iand (n := 28) C dX0_isFreeWithout_27 rfl ?_
      refine g_iconst (n := 29) (1 : Int32) C dX0_isFreeWithout_28 (by decide) rfl ?_
      refine g_icmp_ne (n := 32) (tgt := 36) C dX0_isFreeWithout_29 (by decide) rfl (fun c => ?_) (fun c => ?_)
      · replace h := h.1 c
        refine g_iconst (n := 37) (0 : Int32) C dX0_isFreeWithout_36 (by decide) rfl ?_
        refine g_iast (n := 38) C E (ox_151 hZ) h.1 dX0_isFreeWithout_37 rfl (fun M5 eM5 => ?_)
        replace h := h.2 M5 eM5
        refine g_iinc (n := 41) (v := (1 : Int32)) C dX0_isFreeWithout_38 3 rfl (by decide) (Nat.le_of_ble_eq_true rfl) rfl rfl (fun z6 ez6 => ?_)
        replace h := h z6 ez6
        refine g_goto (tgt := 2) C dX0_isFreeWithout_41 (by decide) ?_
        exact g_sub [1, 2, 3, 0] rfl h
      · replace h := h.2 c
        refine g_iconst (n := 33) (3 : Int32) C dX0_isFreeWithout_32 (by decide) rfl ?_
        refine g_goto (tgt := 37) C dX0_isFreeWithout_33 (by decide) ?_
        refine g_iast (n := 38) C E (ox_151 hZ) h.1 dX0_isFreeWithout_37 rfl (fun M7 eM7 => ?_)
        replace h := h.2 M7 eM7
        refine g_iinc (n := 41) (v := (1 : Int32)) C dX0_isFreeWithout_38 3 rfl (by decide) (Nat.le_of_ble_eq_true rfl) rfl rfl (fun z8 ez8 => ?_)
        replace h := h z8 ez8
        refine g_goto (tgt := 2) C dX0_isFreeWithout_41 (by decide) ?_
        exact g_sub [1, 2, 3, 0] rfl h
  replace h := h (fun (M : Mem) (x2_3 : Int32) => GS Z X 2 [(0, .ref (zb Z + 148)), (1, .int p1), (2, .int p2), (3, .int x2_3)] [] M) s2
  unfold B_Chance_isFreeWithout_i at h
  show GS Z X 0 [(0, .ref (zb Z + 148)), (1, .int p1), (2, .int p2)] [] M
  refine g_iconst (n := 1) (0 : Int32) C dX0_isFreeWithout_0 (by decide) rfl ?_
  refine g_istore_n (n := 2) (i := 3) C dX0_isFreeWithout_1 rfl (Nat.le_of_ble_eq_true rfl) rfl rfl (fun z1 ez1 => ?_)
  replace h := h z1 ez1
  exact g_sub [1, 2, 3, 0] rfl h
def B_Chance_lower_i  (post : Mem → Prop) (R12 : Mem → Int32 → Int32 → Int32 → Prop) (R38 : Mem → Int32 → Prop) (M : Mem)  : Prop :=
  ∀ z1 : Int32, z1 = (M 148 6) → ∀ z2 : Int32, z2 = (M 148 5) → ∀ z3 : Int32, z3 = (0 : Int32) → (R12 M z1 z2 z3)
def B_Chance_lower_12  (post : Mem → Prop) (R12 : Mem → Int32 → Int32 → Int32 → Prop) (R38 : Mem → Int32 → Prop) (M : Mem) (x12_1 : Int32) (x12_2 : Int32) (x12_3 : Int32) : Prop :=
  ((((100 : Int32) ≤ x12_3) → (R38 M x12_1)) ∧ ((¬ (100 : Int32) ≤ x12_3) → (((x12_2 = 0) → (R38 M x12_1)) ∧ ((¬ x12_2 = 0) → (¬ x12_2 = 0) ∧ (∀ z4 : Int32, z4 = (x12_1 - x12_1 / x12_2 * x12_2) → ∀ z5 : Int32, z5 = x12_2 → ∀ z6 : Int32, z6 = z4 → ∀ z7 : Int32, z7 = x12_3 + (1 : Int32) → (R12 M z5 z6 z7))))))
def B_Chance_lower_38  (post : Mem → Prop) (R12 : Mem → Int32 → Int32 → Int32 → Prop) (R38 : Mem → Int32 → Prop) (M : Mem) (x38_1 : Int32) : Prop :=
  (((x38_1 ≤ 0) → post M) ∧ ((¬ x38_1 ≤ 0) → (¬ x38_1 = 0) ∧ (∀ M8 : Mem, M8 = mset M 148 5 ((M 148 5) / x38_1) → (¬ x38_1 = 0) ∧ (∀ M9 : Mem, M9 = mset M8 148 6 ((M8 148 6) / x38_1) → post M9))))
def P_Chance_lower (M : Mem)  (post : Mem → Prop) : Prop :=
  ∀ (R12 : Mem → Int32 → Int32 → Int32 → Prop) (R38 : Mem → Int32 → Prop), (∀ (M : Mem) (x12_1 : Int32) (x12_2 : Int32) (x12_3 : Int32), B_Chance_lower_12  post R12 R38 M x12_1 x12_2 x12_3 → R12 M x12_1 x12_2 x12_3) → (∀ (M : Mem) (x38_1 : Int32), B_Chance_lower_38  post R12 R38 M x38_1 → R38 M x38_1) → B_Chance_lower_i  post R12 R38 M
set_option maxHeartbeats 4000000 in
set_option maxRecDepth 100000 in
theorem c_Chance_lower {Z : ZT} (hZ : IsX Z) (l : Launch)  (M : Mem) (post : Mem → Prop) (h : P_Chance_lower M  post) : CtV Z l yX0_lower cX0_lower 5 none 0 0 [.ref (zb Z + 148)] M post := by
  refine ctV (own := RX0) rfl (by decide) (Nat.le_of_ble_eq_true rfl) (fun X C E hr hQ => ?_)
  have s12 : ∀ (M : Mem) (x12_1 : Int32) (x12_2 : Int32) (x12_3 : Int32), B_Chance_lower_12  post (fun (M : Mem) (x12_1 : Int32) (x12_2 : Int32) (x12_3 : Int32) => GS Z X 12 [(0, .ref (zb Z + 148)), (1, .int x12_1), (2, .int x12_2), (3, .int x12_3)] [] M) (fun (M : Mem) (x38_1 : Int32) => GS Z X 38 [(0, .ref (zb Z + 148)), (1, .int x38_1)] [] M) M x12_1 x12_2 x12_3 → GS Z X 12 [(0, .ref (zb Z + 148)), (1, .int x12_1), (2, .int x12_2), (3, .int x12_3)] [] M := by
    intro M x12_1 x12_2 x12_3 h
    unfold B_Chance_lower_12 at h
    refine g_iload_n (n := 13) (i := 3) C dX0_lower_12 rfl 3 rfl rfl ?_
    refine g_bipush (n := 15) (100 : Int32) C dX0_lower_13 (by decide) rfl ?_
    refine g_icmp_ge (n := 18) (tgt := 38) C dX0_lower_15 (by decide) rfl (fun c => ?_) (fun c => ?_)
    · replace h := h.1 c
      exact g_sub [0, 1] rfl h
    · replace h := h.2 c
      refine g_iload_n (n := 19) (i := 2) C dX0_lower_18 rfl 2 rfl rfl ?_
      refine g_if_eq (n := 22) (tgt := 38) C dX0_lower_19 (by decide) rfl (fun c => ?_) (fun c => ?_)
      · replace h := h.1 c
        exact g_sub [0, 1] rfl h
      · replace h := h.2 c
        refine g_iload_n (n := 23) (i := 1) C dX0_lower_22 rfl 1 rfl rfl ?_
        refine g_iload_n (n := 24) (i := 2) C dX0_lower_23 rfl 2 rfl rfl ?_
        refine g_irem (n := 25) C dX0_lower_24 h.1 rfl ?_
        replace h := h.2
        refine g_istore (n := 27) (i := 4) C dX0_lower_25 (Nat.le_of_ble_eq_true rfl) rfl rfl (fun z4 ez4 => ?_)
        replace h := h z4 ez4
        refine g_iload_n (n := 28) (i := 2) C dX0_lower_27 rfl 3 rfl rfl ?_
        refine g_istore_n (n := 29) (i := 1) C dX0_lower_28 rfl (Nat.le_of_ble_eq_true rfl) rfl rfl (fun z5 ez5 => ?_)
        replace h := h z5 ez5
        refine g_iload (n := 31) C dX0_lower_29 1 rfl rfl ?_
        refine g_istore_n (n := 32) (i := 2) C dX0_lower_31 rfl (Nat.le_of_ble_eq_true rfl) rfl rfl (fun z6 ez6 => ?_)
        replace h := h z6 ez6
        refine g_iinc (n := 35) (v := (1 : Int32)) C dX0_lower_32 4 rfl (by decide) (Nat.le_of_ble_eq_true rfl) rfl rfl (fun z7 ez7 => ?_)
        replace h := h z7 ez7
        refine g_goto (tgt := 12) C dX0_lower_35 (by decide) ?_
        exact g_sub [4, 2, 1, 0] rfl h
  have s38 : ∀ (M : Mem) (x38_1 : Int32), B_Chance_lower_38  post (fun (M : Mem) (x12_1 : Int32) (x12_2 : Int32) (x12_3 : Int32) => GS Z X 12 [(0, .ref (zb Z + 148)), (1, .int x12_1), (2, .int x12_2), (3, .int x12_3)] [] M) (fun (M : Mem) (x38_1 : Int32) => GS Z X 38 [(0, .ref (zb Z + 148)), (1, .int x38_1)] [] M) M x38_1 → GS Z X 38 [(0, .ref (zb Z + 148)), (1, .int x38_1)] [] M := by
    intro M x38_1 h
    unfold B_Chance_lower_38 at h
    refine g_iload_n (n := 39) (i := 1) C dX0_lower_38 rfl 1 rfl rfl ?_
    refine g_if_le (n := 42) (tgt := 62) C dX0_lower_39 (by decide) rfl (fun c => ?_) (fun c => ?_)
    · replace h := h.1 c
      exact g_vret C hr hQ dX0_lower_62 h
    · replace h := h.2 c
      refine g_aload_n (n := 43) (i := 0) C dX0_lower_42 rfl 0 rfl rfl ?_
      refine g_dup (n := 44) C dX0_lower_43 rfl rfl ?_
      refine gf_X0_19 (n := 47) C E (ox_148 hZ) dX0_lower_44 rfl ?_
      refine g_iload_n (n := 48) (i := 1) C dX0_lower_47 rfl 1 rfl rfl ?_
      refine g_idiv (n := 49) C dX0_lower_48 h.1 rfl ?_
      replace h := h.2
      refine gp_X0_19 (n := 52) C E (ox_148 hZ) dX0_lower_49 rfl (fun M8 eM8 => ?_)
      replace h := h M8 eM8
      refine g_aload_n (n := 53) (i := 0) C dX0_lower_52 rfl 0 rfl rfl ?_
      refine g_dup (n := 54) C dX0_lower_53 rfl rfl ?_
      refine gf_X0_22 (n := 57) C E (ox_148 hZ) dX0_lower_54 rfl ?_
      refine g_iload_n (n := 58) (i := 1) C dX0_lower_57 rfl 1 rfl rfl ?_
      refine g_idiv (n := 59) C dX0_lower_58 h.1 rfl ?_
      replace h := h.2
      refine gp_X0_22 (n := 62) C E (ox_148 hZ) dX0_lower_59 rfl (fun M9 eM9 => ?_)
      replace h := h M9 eM9
      exact g_vret C hr hQ dX0_lower_62 h
  replace h := h (fun (M : Mem) (x12_1 : Int32) (x12_2 : Int32) (x12_3 : Int32) => GS Z X 12 [(0, .ref (zb Z + 148)), (1, .int x12_1), (2, .int x12_2), (3, .int x12_3)] [] M) (fun (M : Mem) (x38_1 : Int32) => GS Z X 38 [(0, .ref (zb Z + 148)), (1, .int x38_1)] [] M) s12 s38
  unfold B_Chance_lower_i at h
  show GS Z X 0 [(0, .ref (zb Z + 148))] [] M
  refine g_aload_n (n := 1) (i := 0) C dX0_lower_0 rfl 0 rfl rfl ?_
  refine gf_X0_22 (n := 4) C E (ox_148 hZ) dX0_lower_1 rfl ?_
  refine g_istore_n (n := 5) (i := 1) C dX0_lower_4 rfl (Nat.le_of_ble_eq_true rfl) rfl rfl (fun z1 ez1 => ?_)
  replace h := h z1 ez1
  refine g_aload_n (n := 6) (i := 0) C dX0_lower_5 rfl 1 rfl rfl ?_
  refine gf_X0_19 (n := 9) C E (ox_148 hZ) dX0_lower_6 rfl ?_
  refine g_istore_n (n := 10) (i := 2) C dX0_lower_9 rfl (Nat.le_of_ble_eq_true rfl) rfl rfl (fun z2 ez2 => ?_)
  replace h := h z2 ez2
  refine g_iconst (n := 11) (0 : Int32) C dX0_lower_10 (by decide) rfl ?_
  refine g_istore_n (n := 12) (i := 3) C dX0_lower_11 rfl (Nat.le_of_ble_eq_true rfl) rfl rfl (fun z3 ez3 => ?_)
  replace h := h z3 ez3
  exact g_sub [3, 2, 1, 0] rfl h
def B_Chance_weigh_i (p1 : Nat) (p2 : Int32) (p3 : Int32) (post : Mem → Prop) (R8 : Mem → Int32 → Prop) (R73 : Mem → Int32 → Prop) (R133 : Mem → Int32 → Prop) (M : Mem)  : Prop :=
  ∀ M1 : Mem, M1 = mset M 148 4 (0 : Int32) → ∀ z2 : Int32, z2 = (0 : Int32) → (R8 M1 z2)
def B_Chance_weigh_8 (p1 : Nat) (p2 : Int32) (p3 : Int32) (post : Mem → Prop) (R8 : Mem → Int32 → Prop) (R73 : Mem → Int32 → Prop) (R133 : Mem → Int32 → Prop) (M : Mem) (x8_4 : Int32) : Prop :=
  ((((M 4 6) ≤ x8_4) → P_House_copyFrom M 150 p1 (fun (M3 : Mem) => ∀ M4 : Mem, M4 = mset M3 148 5 (0 : Int32) → ∀ z5 : Int32, z5 = (0 : Int32) → (R73 M4 z5))) ∧ ((¬ (M 4 6) ≤ x8_4) → vp_in x8_4 7 ∧ ((((¬ (M (p1 + 1) (x8_4).toNatClampNeg) = 0) → ∀ z6 : Int32, z6 = x8_4 + (1 : Int32) → (R8 M z6)) ∧ (((M (p1 + 1) (x8_4).toNatClampNeg) = 0) → vp_in (M 148 4) 7 ∧ (∀ M7 : Mem, M7 = mset M 149 ((M 148 4)).toNatClampNeg x8_4 → ∀ M8 : Mem, M8 = mset M7 148 4 ((M7 148 4) + (1 : Int32)) → ∀ z9 : Int32, z9 = x8_4 + (1 : Int32) → (R8 M8 z9)))))))
def B_Chance_weigh_73 (p1 : Nat) (p2 : Int32) (p3 : Int32) (post : Mem → Prop) (R8 : Mem → Int32 → Prop) (R73 : Mem → Int32 → Prop) (R133 : Mem → Int32 → Prop) (M : Mem) (x73_4 : Int32) : Prop :=
  (((((1 : Int32) <<< ((M 148 4) &&& 31)) ≤ x73_4) → ∀ M10 : Mem, M10 = mset M 148 6 (1 : Int32) → ∀ z11 : Int32, z11 = (0 : Int32) → (R133 M10 z11)) ∧ ((¬ ((1 : Int32) <<< ((M 148 4) &&& 31)) ≤ x73_4) → P_Chance_weightOf M x73_4 p3 (fun (r13 : Int32) (M12 : Mem) => ∀ z14 : Int32, z14 = r13 → (((z14 ≤ 0) → ∀ z15 : Int32, z15 = x73_4 + (1 : Int32) → (R73 M12 z15)) ∧ ((¬ z14 ≤ 0) → P_Chance_isFreeWithout M12 x73_4 p2 (fun (r17 : Int32) (M16 : Mem) => (((r17 = 0) → ∀ z18 : Int32, z18 = x73_4 + (1 : Int32) → (R73 M16 z18)) ∧ ((¬ r17 = 0) → ∀ M19 : Mem, M19 = mset M16 148 5 ((M16 148 5) + z14) → ∀ z20 : Int32, z20 = x73_4 + (1 : Int32) → (R73 M19 z20)))))))))
def B_Chance_weigh_133 (p1 : Nat) (p2 : Int32) (p3 : Int32) (post : Mem → Prop) (R8 : Mem → Int32 → Prop) (R73 : Mem → Int32 → Prop) (R133 : Mem → Int32 → Prop) (M : Mem) (x133_4 : Int32) : Prop :=
  ((((M 148 4) ≤ x133_4) → P_Chance_lower M (fun (M21 : Mem) => post M21)) ∧ ((¬ (M 148 4) ≤ x133_4) → ∀ M22 : Mem, M22 = mset M 148 6 ((M 148 6) * (10 : Int32)) → ∀ z23 : Int32, z23 = x133_4 + (1 : Int32) → (R133 M22 z23)))
def P_Chance_weigh (M : Mem) (p1 : Nat) (p2 : Int32) (p3 : Int32) (post : Mem → Prop) : Prop :=
  ∀ (R8 : Mem → Int32 → Prop) (R73 : Mem → Int32 → Prop) (R133 : Mem → Int32 → Prop), (∀ (M : Mem) (x8_4 : Int32), B_Chance_weigh_8 p1 p2 p3 post R8 R73 R133 M x8_4 → R8 M x8_4) → (∀ (M : Mem) (x73_4 : Int32), B_Chance_weigh_73 p1 p2 p3 post R8 R73 R133 M x73_4 → R73 M x73_4) → (∀ (M : Mem) (x133_4 : Int32), B_Chance_weigh_133 p1 p2 p3 post R8 R73 R133 M x133_4 → R133 M x133_4) → B_Chance_weigh_i p1 p2 p3 post R8 R73 R133 M
set_option maxHeartbeats 4000000 in
set_option maxRecDepth 100000 in
theorem c_Chance_weigh {Z : ZT} (hZ : IsX Z) (l : Launch) (p1 : Nat) (hp1 : Hh p1) (p2 : Int32) (p3 : Int32) (M : Mem) (post : Mem → Prop) (h : P_Chance_weigh M p1 p2 p3 post) : CtV Z l yX0_weigh cX0_weigh 6 none 6 137 [.ref (zb Z + 148), .ref (zb Z + p1), .int p2, .int p3] M post := by
  refine ctV (own := RX0) rfl (by decide) (Nat.le_of_ble_eq_true rfl) (fun X C E hr hQ => ?_)
  have s8 : ∀ (M : Mem) (x8_4 : Int32), B_Chance_weigh_8 p1 p2 p3 post (fun (M : Mem) (x8_4 : Int32) => GS Z X 8 [(0, .ref (zb Z + 148)), (1, .ref (zb Z + p1)), (2, .int p2), (3, .int p3), (4, .int x8_4)] [] M) (fun (M : Mem) (x73_4 : Int32) => GS Z X 73 [(0, .ref (zb Z + 148)), (2, .int p2), (3, .int p3), (4, .int x73_4)] [] M) (fun (M : Mem) (x133_4 : Int32) => GS Z X 133 [(0, .ref (zb Z + 148)), (4, .int x133_4)] [] M) M x8_4 → GS Z X 8 [(0, .ref (zb Z + 148)), (1, .ref (zb Z + p1)), (2, .int p2), (3, .int p3), (4, .int x8_4)] [] M := by
    intro M x8_4 h
    unfold B_Chance_weigh_8 at h
    refine g_iload (n := 10) C dX0_weigh_8 4 rfl rfl ?_
    refine g_aload_n (n := 11) (i := 0) C dX0_weigh_10 rfl 0 rfl rfl ?_
    refine gf_X0_25 (n := 14) C E (ox_148 hZ) dX0_weigh_11 rfl ?_
    refine gf_X0_45 (n := 17) C E (ox_4 hZ) dX0_weigh_14 rfl ?_
    refine g_icmp_ge (n := 20) (tgt := 57) C dX0_weigh_17 (by decide) rfl (fun c => ?_) (fun c => ?_)
    · replace h := h.1 c
      refine g_aload_n (n := 58) (i := 0) C dX0_weigh_57 rfl 0 rfl rfl ?_
      refine gf_X0_34 (n := 61) 150 C E (ox_148 hZ) rfl dX0_weigh_58 rfl ?_
      refine g_aload_n (n := 62) (i := 1) C dX0_weigh_61 rfl 1 rfl rfl ?_
      refine g_callNv (n := 65) (kd := 2) C E (c_House_copyFrom hZ _ 150 (by unfold Hh; decide) p1 hp1 M _ h) yi_X2_copyFrom wn_741 rfl (ox_150 hZ) (by decide) (Nat.le_of_ble_eq_true rfl) dX0_weigh_62 rfl rfl (fun M3 h => ?_)
      refine g_aload_n (n := 66) (i := 0) C dX0_weigh_65 rfl 0 rfl rfl ?_
      refine g_iconst (n := 67) (0 : Int32) C dX0_weigh_66 (by decide) rfl ?_
      refine gp_X0_19 (n := 70) C E (ox_148 hZ) dX0_weigh_67 rfl (fun M4 eM4 => ?_)
      replace h := h M4 eM4
      refine g_iconst (n := 71) (0 : Int32) C dX0_weigh_70 (by decide) rfl ?_
      refine g_istore (n := 73) (i := 4) C dX0_weigh_71 (Nat.le_of_ble_eq_true rfl) rfl rfl (fun z5 ez5 => ?_)
      replace h := h z5 ez5
      exact g_sub [1, 3, 4, 0] rfl h
    · replace h := h.2 c
      refine g_aload_n (n := 21) (i := 1) C dX0_weigh_20 rfl 1 rfl rfl ?_
      refine gf_X0_50 (n := 24) (p1 + 1) C E (Hh.o hZ hp1) rfl dX0_weigh_21 rfl ?_
      refine g_iload (n := 26) C dX0_weigh_24 4 rfl rfl ?_
      refine g_iald (n := 27) C E (Hh.f1 hZ hp1) h.1 dX0_weigh_26 rfl ?_
      replace h := h.2
      refine g_if_ne (n := 30) (tgt := 51) C dX0_weigh_27 (by decide) rfl (fun c => ?_) (fun c => ?_)
      · replace h := h.1 c
        refine g_iinc (n := 54) (v := (1 : Int32)) C dX0_weigh_51 4 rfl (by decide) (Nat.le_of_ble_eq_true rfl) rfl rfl (fun z6 ez6 => ?_)
        replace h := h z6 ez6
        refine g_goto (tgt := 8) C dX0_weigh_54 (by decide) ?_
        exact g_sub [1, 2, 3, 4, 0] rfl h
      · replace h := h.2 c
        refine g_aload_n (n := 31) (i := 0) C dX0_weigh_30 rfl 0 rfl rfl ?_
        refine gf_X0_9 (n := 34) 149 C E (ox_148 hZ) rfl dX0_weigh_31 rfl ?_
        refine g_aload_n (n := 35) (i := 0) C dX0_weigh_34 rfl 0 rfl rfl ?_
        refine gf_X0_15 (n := 38) C E (ox_148 hZ) dX0_weigh_35 rfl ?_
        refine g_iload (n := 40) C dX0_weigh_38 4 rfl rfl ?_
        refine g_iast (n := 41) C E (ox_149 hZ) h.1 dX0_weigh_40 rfl (fun M7 eM7 => ?_)
        replace h := h.2 M7 eM7
        refine g_aload_n (n := 42) (i := 0) C dX0_weigh_41 rfl 0 rfl rfl ?_
        refine g_dup (n := 43) C dX0_weigh_42 rfl rfl ?_
        refine gf_X0_15 (n := 46) C E (ox_148 hZ) dX0_weigh_43 rfl ?_
        refine g_iconst (n := 47) (1 : Int32) C dX0_weigh_46 (by decide) rfl ?_
        refine g_iadd (n := 48) C dX0_weigh_47 rfl ?_
        refine gp_X0_15 (n := 51) C E (ox_148 hZ) dX0_weigh_48 rfl (fun M8 eM8 => ?_)
        replace h := h M8 eM8
        refine g_iinc (n := 54) (v := (1 : Int32)) C dX0_weigh_51 4 rfl (by decide) (Nat.le_of_ble_eq_true rfl) rfl rfl (fun z9 ez9 => ?_)
        replace h := h z9 ez9
        refine g_goto (tgt := 8) C dX0_weigh_54 (by decide) ?_
        exact g_sub [1, 2, 3, 4, 0] rfl h
  have s73 : ∀ (M : Mem) (x73_4 : Int32), B_Chance_weigh_73 p1 p2 p3 post (fun (M : Mem) (x8_4 : Int32) => GS Z X 8 [(0, .ref (zb Z + 148)), (1, .ref (zb Z + p1)), (2, .int p2), (3, .int p3), (4, .int x8_4)] [] M) (fun (M : Mem) (x73_4 : Int32) => GS Z X 73 [(0, .ref (zb Z + 148)), (2, .int p2), (3, .int p3), (4, .int x73_4)] [] M) (fun (M : Mem) (x133_4 : Int32) => GS Z X 133 [(0, .ref (zb Z + 148)), (4, .int x133_4)] [] M) M x73_4 → GS Z X 73 [(0, .ref (zb Z + 148)), (2, .int p2), (3, .int p3), (4, .int x73_4)] [] M := by
    intro M x73_4 h
    unfold B_Chance_weigh_73 at h
    refine g_iload (n := 75) C dX0_weigh_73 3 rfl rfl ?_
    refine g_iconst (n := 76) (1 : Int32) C dX0_weigh_75 (by decide) rfl ?_
    refine g_aload_n (n := 77) (i := 0) C dX0_weigh_76 rfl 0 rfl rfl ?_
    refine gf_X0_15 (n := 80) C E (ox_148 hZ) dX0_weigh_77 rfl ?_
    refine g_ishl (n := 81) C dX0_weigh_80 rfl ?_
    refine g_icmp_ge (n := 84) (tgt := 125) C dX0_weigh_81 (by decide) rfl (fun c => ?_) (fun c => ?_)
    · replace h := h.1 c
      refine g_aload_n (n := 126) (i := 0) C dX0_weigh_125 rfl 0 rfl rfl ?_
      refine g_iconst (n := 127) (1 : Int32) C dX0_weigh_126 (by decide) rfl ?_
      refine gp_X0_22 (n := 130) C E (ox_148 hZ) dX0_weigh_127 rfl (fun M10 eM10 => ?_)
      replace h := h M10 eM10
      refine g_iconst (n := 131) (0 : Int32) C dX0_weigh_130 (by decide) rfl ?_
      refine g_istore (n := 133) (i := 4) C dX0_weigh_131 (Nat.le_of_ble_eq_true rfl) rfl rfl (fun z11 ez11 => ?_)
      replace h := h z11 ez11
      exact g_sub [1, 0] rfl h
    · replace h := h.2 c
      refine g_aload_n (n := 85) (i := 0) C dX0_weigh_84 rfl 0 rfl rfl ?_
      refine g_iload (n := 87) C dX0_weigh_85 3 rfl rfl ?_
      refine g_iload_n (n := 88) (i := 3) C dX0_weigh_87 rfl 2 rfl rfl ?_
      refine g_callVi (n := 91) (kd := 0) C E (c_Chance_weightOf hZ _ x73_4 p3 M _ h) yi_X0_weightOf wd_742 rfl (ox_148 hZ) (by decide) (Nat.le_of_ble_eq_true rfl) dX0_weigh_88 rfl rfl (fun r13 M12 h => ?_)
      refine g_istore (n := 93) (i := 5) C dX0_weigh_91 (Nat.le_of_ble_eq_true rfl) rfl rfl (fun z14 ez14 => ?_)
      replace h := h z14 ez14
      refine g_iload (n := 95) C dX0_weigh_93 0 rfl rfl ?_
      refine g_if_le (n := 98) (tgt := 119) C dX0_weigh_95 (by decide) rfl (fun c => ?_) (fun c => ?_)
      · replace h := h.1 c
        refine g_iinc (n := 122) (v := (1 : Int32)) C dX0_weigh_119 4 rfl (by decide) (Nat.le_of_ble_eq_true rfl) rfl rfl (fun z15 ez15 => ?_)
        replace h := h z15 ez15
        refine g_goto (tgt := 73) C dX0_weigh_122 (by decide) ?_
        exact g_sub [2, 3, 4, 0] rfl h
      · replace h := h.2 c
        refine g_aload_n (n := 99) (i := 0) C dX0_weigh_98 rfl 1 rfl rfl ?_
        refine g_iload (n := 101) C dX0_weigh_99 4 rfl rfl ?_
        refine g_iload_n (n := 102) (i := 2) C dX0_weigh_101 rfl 2 rfl rfl ?_
        refine g_callVi (n := 105) (kd := 0) C E (c_Chance_isFreeWithout hZ _ x73_4 p2 M12 _ h) yi_X0_isFreeWithout wd_746 rfl (ox_148 hZ) (by decide) (Nat.le_of_ble_eq_true rfl) dX0_weigh_102 rfl rfl (fun r17 M16 h => ?_)
        refine g_if_eq (n := 108) (tgt := 119) C dX0_weigh_105 (by decide) rfl (fun c => ?_) (fun c => ?_)
        · replace h := h.1 c
          refine g_iinc (n := 122) (v := (1 : Int32)) C dX0_weigh_119 4 rfl (by decide) (Nat.le_of_ble_eq_true rfl) rfl rfl (fun z18 ez18 => ?_)
          replace h := h z18 ez18
          refine g_goto (tgt := 73) C dX0_weigh_122 (by decide) ?_
          exact g_sub [2, 3, 4, 0] rfl h
        · replace h := h.2 c
          refine g_aload_n (n := 109) (i := 0) C dX0_weigh_108 rfl 1 rfl rfl ?_
          refine g_dup (n := 110) C dX0_weigh_109 rfl rfl ?_
          refine gf_X0_19 (n := 113) C E (ox_148 hZ) dX0_weigh_110 rfl ?_
          refine g_iload (n := 115) C dX0_weigh_113 0 rfl rfl ?_
          refine g_iadd (n := 116) C dX0_weigh_115 rfl ?_
          refine gp_X0_19 (n := 119) C E (ox_148 hZ) dX0_weigh_116 rfl (fun M19 eM19 => ?_)
          replace h := h M19 eM19
          refine g_iinc (n := 122) (v := (1 : Int32)) C dX0_weigh_119 4 rfl (by decide) (Nat.le_of_ble_eq_true rfl) rfl rfl (fun z20 ez20 => ?_)
          replace h := h z20 ez20
          refine g_goto (tgt := 73) C dX0_weigh_122 (by decide) ?_
          exact g_sub [2, 3, 4, 0] rfl h
  have s133 : ∀ (M : Mem) (x133_4 : Int32), B_Chance_weigh_133 p1 p2 p3 post (fun (M : Mem) (x8_4 : Int32) => GS Z X 8 [(0, .ref (zb Z + 148)), (1, .ref (zb Z + p1)), (2, .int p2), (3, .int p3), (4, .int x8_4)] [] M) (fun (M : Mem) (x73_4 : Int32) => GS Z X 73 [(0, .ref (zb Z + 148)), (2, .int p2), (3, .int p3), (4, .int x73_4)] [] M) (fun (M : Mem) (x133_4 : Int32) => GS Z X 133 [(0, .ref (zb Z + 148)), (4, .int x133_4)] [] M) M x133_4 → GS Z X 133 [(0, .ref (zb Z + 148)), (4, .int x133_4)] [] M := by
    intro M x133_4 h
    unfold B_Chance_weigh_133 at h
    refine g_iload (n := 135) C dX0_weigh_133 1 rfl rfl ?_
    refine g_aload_n (n := 136) (i := 0) C dX0_weigh_135 rfl 0 rfl rfl ?_
    refine gf_X0_15 (n := 139) C E (ox_148 hZ) dX0_weigh_136 rfl ?_
    refine g_icmp_ge (n := 142) (tgt := 159) C dX0_weigh_139 (by decide) rfl (fun c => ?_) (fun c => ?_)
    · replace h := h.1 c
      refine g_aload_n (n := 160) (i := 0) C dX0_weigh_159 rfl 0 rfl rfl ?_
      refine g_callVv (n := 163) (kd := 0) C E (c_Chance_lower hZ _  M _ h) yi_X0_lower wd_752 rfl (ox_148 hZ) (by decide) (Nat.le_of_ble_eq_true rfl) dX0_weigh_160 rfl rfl (fun M21 h => ?_)
      exact g_vret C hr hQ dX0_weigh_163 h
    · replace h := h.2 c
      refine g_aload_n (n := 143) (i := 0) C dX0_weigh_142 rfl 0 rfl rfl ?_
      refine g_dup (n := 144) C dX0_weigh_143 rfl rfl ?_
      refine gf_X0_22 (n := 147) C E (ox_148 hZ) dX0_weigh_144 rfl ?_
      refine g_bipush (n := 149) (10 : Int32) C dX0_weigh_147 (by decide) rfl ?_
      refine g_imul (n := 150) C dX0_weigh_149 rfl ?_
      refine gp_X0_22 (n := 153) C E (ox_148 hZ) dX0_weigh_150 rfl (fun M22 eM22 => ?_)
      replace h := h M22 eM22
      refine g_iinc (n := 156) (v := (1 : Int32)) C dX0_weigh_153 1 rfl (by decide) (Nat.le_of_ble_eq_true rfl) rfl rfl (fun z23 ez23 => ?_)
      replace h := h z23 ez23
      refine g_goto (tgt := 133) C dX0_weigh_156 (by decide) ?_
      exact g_sub [1, 0] rfl h
  replace h := h (fun (M : Mem) (x8_4 : Int32) => GS Z X 8 [(0, .ref (zb Z + 148)), (1, .ref (zb Z + p1)), (2, .int p2), (3, .int p3), (4, .int x8_4)] [] M) (fun (M : Mem) (x73_4 : Int32) => GS Z X 73 [(0, .ref (zb Z + 148)), (2, .int p2), (3, .int p3), (4, .int x73_4)] [] M) (fun (M : Mem) (x133_4 : Int32) => GS Z X 133 [(0, .ref (zb Z + 148)), (4, .int x133_4)] [] M) s8 s73 s133
  unfold B_Chance_weigh_i at h
  show GS Z X 0 [(0, .ref (zb Z + 148)), (1, .ref (zb Z + p1)), (2, .int p2), (3, .int p3)] [] M
  refine g_aload_n (n := 1) (i := 0) C dX0_weigh_0 rfl 0 rfl rfl ?_
  refine g_iconst (n := 2) (0 : Int32) C dX0_weigh_1 (by decide) rfl ?_
  refine gp_X0_15 (n := 5) C E (ox_148 hZ) dX0_weigh_2 rfl (fun M1 eM1 => ?_)
  replace h := h M1 eM1
  refine g_iconst (n := 6) (0 : Int32) C dX0_weigh_5 (by decide) rfl ?_
  refine g_istore (n := 8) (i := 4) C dX0_weigh_6 (Nat.le_of_ble_eq_true rfl) rfl rfl (fun z2 ez2 => ?_)
  replace h := h z2 ez2
  exact g_sub [1, 2, 3, 4, 0] rfl h
