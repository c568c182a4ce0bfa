def B_Dealing_goStale_i  (post : Mem → Prop)  (M : Mem)  : Prop :=
  ∀ M1 : Mem, M1 = mset M 124 10 (1 : Int32) → post M1
def P_Dealing_goStale (M : Mem)  (post : Mem → Prop) : Prop := B_Dealing_goStale_i  post M
set_option maxHeartbeats 4000000 in
set_option maxRecDepth 100000 in
theorem c_Dealing_goStale {Z : ZT} (hZ : IsX Z) (l : Launch)  (M : Mem) (post : Mem → Prop) (h : P_Dealing_goStale M  post) : CtV Z l yX1_goStale cX1_goStale 1 none 0 0 [.ref (zb Z + 124)] M post := by
  refine ctV (own := RX1) rfl (by decide) (Nat.le_of_ble_eq_true rfl) (fun X C E hr hQ => ?_)
  unfold P_Dealing_goStale at h
  unfold B_Dealing_goStale_i at h
  show GS Z X 0 [(0, .ref (zb Z + 124))] [] M
  refine g_aload_n (n := 1) (i := 0) C dX1_goStale_0 rfl 0 rfl rfl ?_
  refine g_iconst (n := 2) (1 : Int32) C dX1_goStale_1 (by decide) rfl ?_
  refine gp_X1_34 (n := 5) C E (ox_124 hZ) rfl rfl dX1_goStale_2 rfl (fun M1 eM1 => ?_)
  replace h := h M1 eM1
  exact g_vret C hr hQ dX1_goStale_5 h
def B_Dealing_ownerFor_i (p1 : Int32) (post : Int32 → Mem → Prop)  (M : Mem)  : Prop :=
  P_Plan_has M 4 p1 (fun (r2 : Int32) (M1 : Mem) => (((r2 = 0) → post (-4 : Int32) M1) ∧ ((¬ r2 = 0) → vp_in p1 7 ∧ (post (M1 127 (p1).toNatClampNeg) M1))))
def P_Dealing_ownerFor (M : Mem) (p1 : Int32) (post : Int32 → Mem → Prop) : Prop := B_Dealing_ownerFor_i p1 post M
set_option maxHeartbeats 4000000 in
set_option maxRecDepth 100000 in
theorem c_Dealing_ownerFor {Z : ZT} (hZ : IsX Z) (l : Launch) (p1 : Int32) (M : Mem) (post : Int32 → Mem → Prop) (h : P_Dealing_ownerFor M p1 post) : CtI Z l yX1_ownerFor cX1_ownerFor 2 (some .int) 1 21 [.ref (zb Z + 124), .int p1] M post := by
  refine ctI (own := RX1) rfl (by decide) (Nat.le_of_ble_eq_true rfl) (fun X C E hr hQ => ?_)
  unfold P_Dealing_ownerFor at h
  unfold B_Dealing_ownerFor_i at h
  show GS Z X 0 [(0, .ref (zb Z + 124)), (1, .int p1)] [] M
  refine g_aload_n (n := 1) (i := 0) C dX1_ownerFor_0 rfl 0 rfl rfl ?_
  refine gf_X1_38 (n := 4) C E (ox_124 hZ) dX1_ownerFor_1 rfl ?_
  refine g_iload_n (n := 5) (i := 1) C dX1_ownerFor_4 rfl 1 rfl rfl ?_
  refine g_callNi (n := 8) (kd := 4) C E (c_Plan_has hZ _ 4 (by unfold Hp; decide) p1 M _ h) yi_X4_has wn_691 rfl (ox_4 hZ) (by decide) (Nat.le_of_ble_eq_true rfl) dX1_ownerFor_5 rfl rfl (fun r2 M1 h => ?_)
  refine g_if_eq (n := 11) (tgt := 20) C dX1_ownerFor_8 (by decide) rfl (fun c => ?_) (fun c => ?_)
  · replace h := h.1 c
    refine g_bipush (n := 22) (-4 : Int32) C dX1_ownerFor_20 (by decide) rfl ?_
    exact g_iret C hr hQ dX1_ownerFor_22 h
  · replace h := h.2 c
    refine g_aload_n (n := 12) (i := 0) C dX1_ownerFor_11 rfl 0 rfl rfl ?_
    refine gf_X1_18 (n := 15) 127 C E (ox_124 hZ) rfl dX1_ownerFor_12 rfl ?_
    refine g_iload_n (n := 16) (i := 1) C dX1_ownerFor_15 rfl 1 rfl rfl ?_
    refine g_iald (n := 17) C E (ox_127 hZ) h.1 dX1_ownerFor_16 rfl ?_
    replace h := h.2
    refine g_goto (tgt := 22) C dX1_ownerFor_17 (by decide) ?_
    exact g_iret C hr hQ dX1_ownerFor_22 h
def B_Dealing_isPlace_i (p1 : Int32) (post : Int32 → Mem → Prop)  (M : Mem)  : Prop :=
  (((p1 < 0) → post (0 : Int32) M) ∧ ((¬ p1 < 0) → ((((M 124 6) ≤ p1) → post (0 : Int32) M) ∧ ((¬ (M 124 6) ≤ p1) → ((((7 : Int32) ≤ p1) → post (0 : Int32) M) ∧ ((¬ (7 : Int32) ≤ p1) → post (1 : Int32) M))))))
def P_Dealing_isPlace (M : Mem) (p1 : Int32) (post : Int32 → Mem → Prop) : Prop := B_Dealing_isPlace_i p1 post M
set_option maxHeartbeats 4000000 in
set_option maxRecDepth 100000 in
theorem c_Dealing_isPlace {Z : ZT} (hZ : IsX Z) (l : Launch) (p1 : Int32) (M : Mem) (post : Int32 → Mem → Prop) (h : P_Dealing_isPlace M p1 post) : CtI Z l yX1_isPlace cX1_isPlace 2 (some .boolean) 0 0 [.ref (zb Z + 124), .int p1] M post := by
  refine ctI (own := RX1) rfl (by decide) (Nat.le_of_ble_eq_true rfl) (fun X C E hr hQ => ?_)
  unfold P_Dealing_isPlace at h
  unfold B_Dealing_isPlace_i at h
  show GS Z X 0 [(0, .ref (zb Z + 124)), (1, .int p1)] [] M
  refine g_iload_n (n := 1) (i := 1) C dX1_isPlace_0 rfl 1 rfl rfl ?_
  refine g_if_lt (n := 4) (tgt := 22) C dX1_isPlace_1 (by decide) rfl (fun c => ?_) (fun c => ?_)
  · replace h := h.1 c
    refine g_iconst (n := 23) (0 : Int32) C dX1_isPlace_22 (by decide) rfl ?_
    exact g_zret C hr hQ dX1_isPlace_23 rfl h
  · replace h := h.2 c
    refine g_iload_n (n := 5) (i := 1) C dX1_isPlace_4 rfl 1 rfl rfl ?_
    refine g_aload_n (n := 6) (i := 0) C dX1_isPlace_5 rfl 0 rfl rfl ?_
    refine gf_X1_21 (n := 9) C E (ox_124 hZ) dX1_isPlace_6 rfl ?_
    refine g_icmp_ge (n := 12) (tgt := 22) C dX1_isPlace_9 (by decide) rfl (fun c => ?_) (fun c => ?_)
    · replace h := h.1 c
      refine g_iconst (n := 23) (0 : Int32) C dX1_isPlace_22 (by decide) rfl ?_
      exact g_zret C hr hQ dX1_isPlace_23 rfl h
    · replace h := h.2 c
      refine g_iload_n (n := 13) (i := 1) C dX1_isPlace_12 rfl 1 rfl rfl ?_
      refine g_bipush (n := 15) (7 : Int32) C dX1_isPlace_13 (by decide) rfl ?_
      refine g_icmp_ge (n := 18) (tgt := 22) C dX1_isPlace_15 (by decide) rfl (fun c => ?_) (fun c => ?_)
      · replace h := h.1 c
        refine g_iconst (n := 23) (0 : Int32) C dX1_isPlace_22 (by decide) rfl ?_
        exact g_zret C hr hQ dX1_isPlace_23 rfl h
      · replace h := h.2 c
        refine g_iconst (n := 19) (1 : Int32) C dX1_isPlace_18 (by decide) rfl ?_
        refine g_goto (tgt := 23) C dX1_isPlace_19 (by decide) ?_
        exact g_zret C hr hQ dX1_isPlace_23 rfl h
def B_Dealing_begin_i  (post : Mem → Prop) (R18 : Mem → Int32 → Prop) (R112 : Mem → Int32 → Prop) (M : Mem)  : Prop :=
  ∀ M1 : Mem, M1 = mset M 124 6 (0 : Int32) → ∀ M2 : Mem, M2 = mset M1 124 7 (0 : Int32) → ∀ M3 : Mem, M3 = mset M2 124 8 (1000000 : Int32) → ∀ z4 : Int32, z4 = (0 : Int32) → (R18 M3 z4)
def B_Dealing_begin_18  (post : Mem → Prop) (R18 : Mem → Int32 → Prop) (R112 : Mem → Int32 → Prop) (M : Mem) (x18_1 : Int32) : Prop :=
  ((((7 : Int32) ≤ x18_1) → ∀ z5 : Int32, z5 = (0 : Int32) → (R112 M z5)) ∧ ((¬ (7 : Int32) ≤ x18_1) → ((((M 4 6) ≤ x18_1) → ∀ z6 : Int32, z6 = (0 : Int32) → (R112 M z6)) ∧ ((¬ (M 4 6) ≤ x18_1) → vp_in x18_1 7 ∧ (∀ M7 : Mem, M7 = mset M 127 (x18_1).toNatClampNeg (-4 : Int32) → vp_in x18_1 7 ∧ ((((¬ (M7 129 (x18_1).toNatClampNeg) = 0) → ∀ z8 : Int32, z8 = x18_1 + (1 : Int32) → (R18 M7 z8)) ∧ (((M7 129 (x18_1).toNatClampNeg) = 0) → ((((7 : Int32) ≤ (M7 124 6)) → ∀ z9 : Int32, z9 = x18_1 + (1 : Int32) → (R18 M7 z9)) ∧ ((¬ (7 : Int32) ≤ (M7 124 6)) → vp_in (M7 124 6) 7 ∧ (∀ M10 : Mem, M10 = mset M7 125 ((M7 124 6)).toNatClampNeg x18_1 → ∀ M11 : Mem, M11 = mset M10 124 6 ((M10 124 6) + (1 : Int32)) → vp_in x18_1 7 ∧ (∀ M12 : Mem, M12 = mset M11 124 8 (imin (M11 124 8) (M11 131 (x18_1).toNatClampNeg)) → ∀ z13 : Int32, z13 = x18_1 + (1 : Int32) → (R18 M12 z13)))))))))))))
def B_Dealing_begin_112  (post : Mem → Prop) (R18 : Mem → Int32 → Prop) (R112 : Mem → Int32 → Prop) (M : Mem) (x112_1 : Int32) : Prop :=
  ((((7 : Int32) ≤ x112_1) → post M) ∧ ((¬ (7 : Int32) ≤ x112_1) → vp_in x112_1 7 ∧ (∀ M14 : Mem, M14 = mset M 126 (x112_1).toNatClampNeg (-1 : Int32) → P_Dealing_isPlace M14 x112_1 (fun (r16 : Int32) (M15 : Mem) => (((r16 = 0) → ∀ z17 : Int32, z17 = x112_1 + (1 : Int32) → (R112 M15 z17)) ∧ ((¬ r16 = 0) → vp_in x112_1 7 ∧ (P_House_giveRoom M15 128 (M15 125 (x112_1).toNatClampNeg) (M15 124 8) (fun (M18 : Mem) => ∀ z19 : Int32, z19 = x112_1 + (1 : Int32) → (R112 M18 z19)))))))))
def P_Dealing_begin (M : Mem)  (post : Mem → Prop) : Prop :=
  ∀ (R18 : Mem → Int32 → Prop) (R112 : Mem → Int32 → Prop), (∀ (M : Mem) (x18_1 : Int32), B_Dealing_begin_18  post R18 R112 M x18_1 → R18 M x18_1) → (∀ (M : Mem) (x112_1 : Int32), B_Dealing_begin_112  post R18 R112 M x112_1 → R112 M x112_1) → B_Dealing_begin_i  post R18 R112 M
set_option maxHeartbeats 4000000 in
set_option maxRecDepth 100000 in
theorem c_Dealing_begin {Z : ZT} (hZ : IsX Z) (l : Launch)  (M : Mem) (post : Mem → Prop) (h : P_Dealing_begin M  post) : CtV Z l yX1_begin cX1_begin 2 none 2 43 [.ref (zb Z + 124)] M post := by
  refine ctV (own := RX1) rfl (by decide) (Nat.le_of_ble_eq_true rfl) (fun X C E hr hQ => ?_)
  have s18 : ∀ (M : Mem) (x18_1 : Int32), B_Dealing_begin_18  post (fun (M : Mem) (x18_1 : Int32) => GS Z X 18 [(0, .ref (zb Z + 124)), (1, .int x18_1)] [] M) (fun (M : Mem) (x112_1 : Int32) => GS Z X 112 [(0, .ref (zb Z + 124)), (1, .int x112_1)] [] M) M x18_1 → GS Z X 18 [(0, .ref (zb Z + 124)), (1, .int x18_1)] [] M := by
    intro M x18_1 h
    unfold B_Dealing_begin_18 at h
    refine g_iload_n (n := 19) (i := 1) C dX1_begin_18 rfl 1 rfl rfl ?_
    refine g_bipush (n := 21) (7 : Int32) C dX1_begin_19 (by decide) rfl ?_
    refine g_icmp_ge (n := 24) (tgt := 110) C dX1_begin_21 (by decide) rfl (fun c => ?_) (fun c => ?_)
    · replace h := h.1 c
      refine g_iconst (n := 111) (0 : Int32) C dX1_begin_110 (by decide) rfl ?_
      refine g_istore_n (n := 112) (i := 1) C dX1_begin_111 rfl (Nat.le_of_ble_eq_true rfl) rfl rfl (fun z5 ez5 => ?_)
      replace h := h z5 ez5
      exact g_sub [1, 0] rfl h
    · replace h := h.2 c
      refine g_iload_n (n := 25) (i := 1) C dX1_begin_24 rfl 1 rfl rfl ?_
      refine g_aload_n (n := 26) (i := 0) C dX1_begin_25 rfl 0 rfl rfl ?_
      refine gf_X1_38 (n := 29) C E (ox_124 hZ) dX1_begin_26 rfl ?_
      refine gf_X1_81 (n := 32) C E (ox_4 hZ) dX1_begin_29 rfl ?_
      refine g_icmp_ge (n := 35) (tgt := 110) C dX1_begin_32 (by decide) rfl (fun c => ?_) (fun c => ?_)
      · replace h := h.1 c
        refine g_iconst (n := 111) (0 : Int32) C dX1_begin_110 (by decide) rfl ?_
        refine g_istore_n (n := 112) (i := 1) C dX1_begin_111 rfl (Nat.le_of_ble_eq_true rfl) rfl rfl (fun z6 ez6 => ?_)
        replace h := h z6 ez6
        exact g_sub [1, 0] rfl h
      · replace h := h.2 c
        refine g_aload_n (n := 36) (i := 0) C dX1_begin_35 rfl 0 rfl rfl ?_
        refine gf_X1_18 (n := 39) 127 C E (ox_124 hZ) rfl dX1_begin_36 rfl ?_
        refine g_iload_n (n := 40) (i := 1) C dX1_begin_39 rfl 1 rfl rfl ?_
        refine g_bipush (n := 42) (-4 : Int32) C dX1_begin_40 (by decide) rfl ?_
        refine g_iast (n := 43) C E (ox_127 hZ) h.1 dX1_begin_42 rfl (fun M7 eM7 => ?_)
        replace h := h.2 M7 eM7
        refine g_aload_n (n := 44) (i := 0) C dX1_begin_43 rfl 0 rfl rfl ?_
        refine gf_X1_47 (n := 47) 128 C E (ox_124 hZ) rfl dX1_begin_44 rfl ?_
        refine gf_X1_84 (n := 50) 129 C E (ox_128 hZ) rfl dX1_begin_47 rfl ?_
        refine g_iload_n (n := 51) (i := 1) C dX1_begin_50 rfl 1 rfl rfl ?_
        refine g_iald (n := 52) C E (ox_129 hZ) h.1 dX1_begin_51 rfl ?_
        replace h := h.2
        refine g_if_ne (n := 55) (tgt := 104) C dX1_begin_52 (by decide) rfl (fun c => ?_) (fun c => ?_)
        · replace h := h.1 c
          refine g_iinc (n := 107) (v := (1 : Int32)) C dX1_begin_104 1 rfl (by decide) (Nat.le_of_ble_eq_true rfl) rfl rfl (fun z8 ez8 => ?_)
          replace h := h z8 ez8
          refine g_goto (tgt := 18) C dX1_begin_107 (by decide) ?_
          exact g_sub [1, 0] rfl h
        · replace h := h.2 c
          refine g_aload_n (n := 56) (i := 0) C dX1_begin_55 rfl 0 rfl rfl ?_
          refine gf_X1_21 (n := 59) C E (ox_124 hZ) dX1_begin_56 rfl ?_
          refine g_bipush (n := 61) (7 : Int32) C dX1_begin_59 (by decide) rfl ?_
          refine g_icmp_ge (n := 64) (tgt := 104) C dX1_begin_61 (by decide) rfl (fun c => ?_) (fun c => ?_)
          · replace h := h.1 c
            refine g_iinc (n := 107) (v := (1 : Int32)) C dX1_begin_104 1 rfl (by decide) (Nat.le_of_ble_eq_true rfl) rfl rfl (fun z9 ez9 => ?_)
            replace h := h z9 ez9
            refine g_goto (tgt := 18) C dX1_begin_107 (by decide) ?_
            exact g_sub [1, 0] rfl h
          · replace h := h.2 c
            refine g_aload_n (n := 65) (i := 0) C dX1_begin_64 rfl 0 rfl rfl ?_
            refine gf_X1_9 (n := 68) 125 C E (ox_124 hZ) rfl dX1_begin_65 rfl ?_
            refine g_aload_n (n := 69) (i := 0) C dX1_begin_68 rfl 0 rfl rfl ?_
            refine gf_X1_21 (n := 72) C E (ox_124 hZ) dX1_begin_69 rfl ?_
            refine g_iload_n (n := 73) (i := 1) C dX1_begin_72 rfl 1 rfl rfl ?_
            refine g_iast (n := 74) C E (ox_125 hZ) h.1 dX1_begin_73 rfl (fun M10 eM10 => ?_)
            replace h := h.2 M10 eM10
            refine g_aload_n (n := 75) (i := 0) C dX1_begin_74 rfl 0 rfl rfl ?_
            refine g_dup (n := 76) C dX1_begin_75 rfl rfl ?_
            refine gf_X1_21 (n := 79) C E (ox_124 hZ) dX1_begin_76 rfl ?_
            refine g_iconst (n := 80) (1 : Int32) C dX1_begin_79 (by decide) rfl ?_
            refine g_iadd (n := 81) C dX1_begin_80 rfl ?_
            refine gp_X1_21 (n := 84) C E (ox_124 hZ) dX1_begin_81 rfl (fun M11 eM11 => ?_)
            replace h := h M11 eM11
            refine g_aload_n (n := 85) (i := 0) C dX1_begin_84 rfl 0 rfl rfl ?_
            refine g_aload_n (n := 86) (i := 0) C dX1_begin_85 rfl 0 rfl rfl ?_
            refine gf_X1_28 (n := 89) C E (ox_124 hZ) dX1_begin_86 rfl ?_
            refine g_aload_n (n := 90) (i := 0) C dX1_begin_89 rfl 0 rfl rfl ?_
            refine gf_X1_47 (n := 93) 128 C E (ox_124 hZ) rfl dX1_begin_90 rfl ?_
            refine gf_X1_87 (n := 96) 131 C E (ox_128 hZ) rfl dX1_begin_93 rfl ?_
            refine g_iload_n (n := 97) (i := 1) C dX1_begin_96 rfl 1 rfl rfl ?_
            refine g_iald (n := 98) C E (ox_131 hZ) h.1 dX1_begin_97 rfl ?_
            replace h := h.2
            refine g_mmin (n := 101) C wd_663 wq_403 wq_7 wq_404 (by decide) (Nat.le_of_ble_eq_true rfl) dX1_begin_98 rfl ?_
            refine gp_X1_28 (n := 104) C E (ox_124 hZ) dX1_begin_101 rfl (fun M12 eM12 => ?_)
            replace h := h M12 eM12
            refine g_iinc (n := 107) (v := (1 : Int32)) C dX1_begin_104 1 rfl (by decide) (Nat.le_of_ble_eq_true rfl) rfl rfl (fun z13 ez13 => ?_)
            replace h := h z13 ez13
            refine g_goto (tgt := 18) C dX1_begin_107 (by decide) ?_
            exact g_sub [1, 0] rfl h
  have s112 : ∀ (M : Mem) (x112_1 : Int32), B_Dealing_begin_112  post (fun (M : Mem) (x18_1 : Int32) => GS Z X 18 [(0, .ref (zb Z + 124)), (1, .int x18_1)] [] M) (fun (M : Mem) (x112_1 : Int32) => GS Z X 112 [(0, .ref (zb Z + 124)), (1, .int x112_1)] [] M) M x112_1 → GS Z X 112 [(0, .ref (zb Z + 124)), (1, .int x112_1)] [] M := by
    intro M x112_1 h
    unfold B_Dealing_begin_112 at h
    refine g_iload_n (n := 113) (i := 1) C dX1_begin_112 rfl 1 rfl rfl ?_
    refine g_bipush (n := 115) (7 : Int32) C dX1_begin_113 (by decide) rfl ?_
    refine g_icmp_ge (n := 118) (tgt := 156) C dX1_begin_115 (by decide) rfl (fun c => ?_) (fun c => ?_)
    · replace h := h.1 c
      exact g_vret C hr hQ dX1_begin_156 h
    · replace h := h.2 c
      refine g_aload_n (n := 119) (i := 0) C dX1_begin_118 rfl 0 rfl rfl ?_
      refine gf_X1_15 (n := 122) 126 C E (ox_124 hZ) rfl dX1_begin_119 rfl ?_
      refine g_iload_n (n := 123) (i := 1) C dX1_begin_122 rfl 1 rfl rfl ?_
      refine g_iconst (n := 124) (-1 : Int32) C dX1_begin_123 (by decide) rfl ?_
      refine g_iast (n := 125) C E (ox_126 hZ) h.1 dX1_begin_124 rfl (fun M14 eM14 => ?_)
      replace h := h.2 M14 eM14
      refine g_aload_n (n := 126) (i := 0) C dX1_begin_125 rfl 0 rfl rfl ?_
      refine g_iload_n (n := 127) (i := 1) C dX1_begin_126 rfl 1 rfl rfl ?_
      refine g_callVi (n := 130) (kd := 1) C E (c_Dealing_isPlace hZ _ x112_1 M14 _ h) yi_X1_isPlace wd_664 rfl (ox_124 hZ) (by decide) (Nat.le_of_ble_eq_true rfl) dX1_begin_127 rfl rfl (fun r16 M15 h => ?_)
      refine g_if_eq (n := 133) (tgt := 150) C dX1_begin_130 (by decide) rfl (fun c => ?_) (fun c => ?_)
      · replace h := h.1 c
        refine g_iinc (n := 153) (v := (1 : Int32)) C dX1_begin_150 1 rfl (by decide) (Nat.le_of_ble_eq_true rfl) rfl rfl (fun z17 ez17 => ?_)
        replace h := h z17 ez17
        refine g_goto (tgt := 112) C dX1_begin_153 (by decide) ?_
        exact g_sub [1, 0] rfl h
      · replace h := h.2 c
        refine g_aload_n (n := 134) (i := 0) C dX1_begin_133 rfl 0 rfl rfl ?_
        refine gf_X1_47 (n := 137) 128 C E (ox_124 hZ) rfl dX1_begin_134 rfl ?_
        refine g_aload_n (n := 138) (i := 0) C dX1_begin_137 rfl 0 rfl rfl ?_
        refine gf_X1_9 (n := 141) 125 C E (ox_124 hZ) rfl dX1_begin_138 rfl ?_
        refine g_iload_n (n := 142) (i := 1) C dX1_begin_141 rfl 1 rfl rfl ?_
        refine g_iald (n := 143) C E (ox_125 hZ) h.1 dX1_begin_142 rfl ?_
        replace h := h.2
        refine g_aload_n (n := 144) (i := 0) C dX1_begin_143 rfl 0 rfl rfl ?_
        refine gf_X1_28 (n := 147) C E (ox_124 hZ) dX1_begin_144 rfl ?_
        refine g_callNv (n := 150) (kd := 2) C E (c_House_giveRoom hZ _ 128 (by unfold Hh; decide) (M15 125 (x112_1).toNatClampNeg) (M15 124 8) M15 _ h) yi_X2_giveRoom wn_668 rfl (ox_128 hZ) (by decide) (Nat.le_of_ble_eq_true rfl) dX1_begin_147 rfl rfl (fun M18 h => ?_)
        refine g_iinc (n := 153) (v := (1 : Int32)) C dX1_begin_150 1 rfl (by decide) (Nat.le_of_ble_eq_true rfl) rfl rfl (fun z19 ez19 => ?_)
        replace h := h z19 ez19
        refine g_goto (tgt := 112) C dX1_begin_153 (by decide) ?_
        exact g_sub [1, 0] rfl h
  replace h := h (fun (M : Mem) (x18_1 : Int32) => GS Z X 18 [(0, .ref (zb Z + 124)), (1, .int x18_1)] [] M) (fun (M : Mem) (x112_1 : Int32) => GS Z X 112 [(0, .ref (zb Z + 124)), (1, .int x112_1)] [] M) s18 s112
  unfold B_Dealing_begin_i at h
  show GS Z X 0 [(0, .ref (zb Z + 124))] [] M
  refine g_aload_n (n := 1) (i := 0) C dX1_begin_0 rfl 0 rfl rfl ?_
  refine g_iconst (n := 2) (0 : Int32) C dX1_begin_1 (by decide) rfl ?_
  refine gp_X1_21 (n := 5) C E (ox_124 hZ) dX1_begin_2 rfl (fun M1 eM1 => ?_)
  replace h := h M1 eM1
  refine g_aload_n (n := 6) (i := 0) C dX1_begin_5 rfl 0 rfl rfl ?_
  refine g_iconst (n := 7) (0 : Int32) C dX1_begin_6 (by decide) rfl ?_
  refine gp_X1_25 (n := 10) C E (ox_124 hZ) dX1_begin_7 rfl (fun M2 eM2 => ?_)
  replace h := h M2 eM2
  refine g_aload_n (n := 11) (i := 0) C dX1_begin_10 rfl 0 rfl rfl ?_
  refine g_ldc (n := 13) (1000000 : Int32) C wd_662 dX1_begin_11 rfl ?_
  refine gp_X1_28 (n := 16) C E (ox_124 hZ) dX1_begin_13 rfl (fun M3 eM3 => ?_)
  replace h := h M3 eM3
  refine g_iconst (n := 17) (0 : Int32) C dX1_begin_16 (by decide) rfl ?_
  refine g_istore_n (n := 18) (i := 1) C dX1_begin_17 rfl (Nat.le_of_ble_eq_true rfl) rfl rfl (fun z4 ez4 => ?_)
  replace h := h z4 ez4
  exact g_sub [1, 0] rfl h
def B_Dealing_pickNext_i (p1 : Int32) (p2 : Nat) (post : Int32 → Mem → Prop) (R44 : Mem → Int32 → Prop) (R72 : Mem → Int32 → Prop) (M : Mem)  : Prop :=
  P_Dealing_isPlace M p1 (fun (r2 : Int32) (M1 : Mem) => (((¬ r2 = 0) → vp_in p1 7 ∧ (∀ z3 : Int32, z3 = (M1 126 (p1).toNatClampNeg) → P_Dealing_isPlace M1 z3 (fun (r5 : Int32) (M4 : Mem) => (((r5 = 0) → ∀ z6 : Int32, z6 = (z3 + (1 : Int32)) → (R44 M4 z6)) ∧ ((¬ r5 = 0) → ∀ M7 : Mem, M7 = mset M4 124 7 ((M4 124 7) &&& (((1 : Int32) <<< (z3 &&& 31)) ^^^ (-1 : Int32))) → ∀ z8 : Int32, z8 = (z3 + (1 : Int32)) → (R44 M7 z8)))))) ∧ ((r2 = 0) → post (0 : Int32) M1)))
def B_Dealing_pickNext_44 (p1 : Int32) (p2 : Nat) (post : Int32 → Mem → Prop) (R44 : Mem → Int32 → Prop) (R72 : Mem → Int32 → Prop) (M : Mem) (x44_4 : Int32) : Prop :=
  ((((M 124 6) ≤ x44_4) → (R72 M x44_4)) ∧ ((¬ (M 124 6) ≤ x44_4) → (((¬ (((M 124 7) >>> (x44_4 &&& 31)) &&& (1 : Int32)) = (1 : Int32)) → (R72 M x44_4)) ∧ (((((M 124 7) >>> (x44_4 &&& 31)) &&& (1 : Int32)) = (1 : Int32)) → ∀ z9 : Int32, z9 = x44_4 + (1 : Int32) → (R44 M z9)))))
def B_Dealing_pickNext_72 (p1 : Int32) (p2 : Nat) (post : Int32 → Mem → Prop) (R44 : Mem → Int32 → Prop) (R72 : Mem → Int32 → Prop) (M : Mem) (x72_4 : Int32) : Prop :=
  P_Dealing_isPlace M x72_4 (fun (r11 : Int32) (M10 : Mem) => (((¬ r11 = 0) → vp_in p1 7 ∧ (∀ M12 : Mem, M12 = mset M10 126 (p1).toNatClampNeg x72_4 → ∀ M13 : Mem, M13 = mset M12 124 7 ((M12 124 7) ||| ((1 : Int32) <<< (x72_4 &&& 31))) → vp_in p1 7 ∧ (vp_in x72_4 7 ∧ (P_House_roomOf M13 p2 (M13 125 (x72_4).toNatClampNeg) (fun (r15 : Int32) (M14 : Mem) => P_House_giveRoom M14 128 (M13 125 (p1).toNatClampNeg) r15 (fun (M16 : Mem) => post (1 : Int32) M16)))))) ∧ ((r11 = 0) → vp_in p1 7 ∧ (∀ M17 : Mem, M17 = mset M10 126 (p1).toNatClampNeg (-1 : Int32) → vp_in p1 7 ∧ (P_House_giveRoom M17 128 (M17 125 (p1).toNatClampNeg) (M17 124 8) (fun (M18 : Mem) => post (0 : Int32) M18))))))
def P_Dealing_pickNext (M : Mem) (p1 : Int32) (p2 : Nat) (post : Int32 → Mem → Prop) : Prop :=
  ∀ (R44 : Mem → Int32 → Prop) (R72 : Mem → Int32 → Prop), (∀ (M : Mem) (x44_4 : Int32), B_Dealing_pickNext_44 p1 p2 post R44 R72 M x44_4 → R44 M x44_4) → (∀ (M : Mem) (x72_4 : Int32), B_Dealing_pickNext_72 p1 p2 post R44 R72 M x72_4 → R72 M x72_4) → B_Dealing_pickNext_i p1 p2 post R44 R72 M
set_option maxHeartbeats 4000000 in
set_option maxRecDepth 100000 in
theorem c_Dealing_pickNext {Z : ZT} (hZ : IsX Z) (l : Launch) (p1 : Int32) (p2 : Nat) (hp2 : Hh p2) (M : Mem) (post : Int32 → Mem → Prop) (h : P_Dealing_pickNext M p1 p2 post) : CtI Z l yX1_pickNext cX1_pickNext 5 (some .boolean) 2 43 [.ref (zb Z + 124), .int p1, .ref (zb Z + p2)] M post := by
  refine ctI (own := RX1) rfl (by decide) (Nat.le_of_ble_eq_true rfl) (fun X C E hr hQ => ?_)
  have s44 : ∀ (M : Mem) (x44_4 : Int32), B_Dealing_pickNext_44 p1 p2 post (fun (M : Mem) (x44_4 : Int32) => GS Z X 44 [(0, .ref (zb Z + 124)), (1, .int p1), (2, .ref (zb Z + p2)), (4, .int x44_4)] [] M) (fun (M : Mem) (x72_4 : Int32) => GS Z X 72 [(0, .ref (zb Z + 124)), (1, .int p1), (2, .ref (zb Z + p2)), (4, .int x72_4)] [] M) M x44_4 → GS Z X 44 [(0, .ref (zb Z + 124)), (1, .int p1), (2, .ref (zb Z + p2)), (4, .int x44_4)] [] M := by
    intro M x44_4 h
    unfold B_Dealing_pickNext_44 at h
    refine g_iload (n := 46) C dX1_pickNext_44 3 rfl rfl ?_
    refine g_aload_n (n := 47) (i := 0) C dX1_pickNext_46 rfl 0 rfl rfl ?_
    refine gf_X1_21 (n := 50) C E (ox_124 hZ) dX1_pickNext_47 rfl ?_
    refine g_icmp_ge (n := 53) (tgt := 72) C dX1_pickNext_50 (by decide) rfl (fun c => ?_) (fun c => ?_)
    · replace h := h.1 c
      exact g_sub [0, 1, 2, 3] rfl h
    · replace h := h.2 c
      refine g_aload_n (n := 54) (i := 0) C dX1_pickNext_53 rfl 0 rfl rfl ?_
      refine gf_X1_25 (n := 57) C E (ox_124 hZ) dX1_pickNext_54 rfl ?_
      refine g_iload (n := 59) C dX1_pickNext_57 3 rfl rfl ?_
      refine g_ishr (n := 60) C dX1_pickNext_59 rfl ?_
      refine g_iconst (n := 61) (1 : Int32) C dX1_pickNext_60 (by decide) rfl ?_
      refine g_iand (n := 62) C dX1_pickNext_61 rfl ?_
      refine g_iconst (n := 63) (1 : Int32) C dX1_pickNext_62 (by decide) rfl ?_
      refine g_icmp_ne (n := 66) (tgt := 72) C dX1_pickNext_63 (by decide) rfl (fun c => ?_) (fun c => ?_)
      · replace h := h.1 c
        exact g_sub [0, 1, 2, 3] rfl h
      · replace h := h.2 c
        refine g_iinc (n := 69) (v := (1 : Int32)) C dX1_pickNext_66 3 rfl (by decide) (Nat.le_of_ble_eq_true rfl) rfl rfl (fun z9 ez9 => ?_)
        replace h := h z9 ez9
        refine g_goto (tgt := 44) C dX1_pickNext_69 (by decide) ?_
        exact g_sub [1, 2, 3, 0] rfl h
  have s72 : ∀ (M : Mem) (x72_4 : Int32), B_Dealing_pickNext_72 p1 p2 post (fun (M : Mem) (x44_4 : Int32) => GS Z X 44 [(0, .ref (zb Z + 124)), (1, .int p1), (2, .ref (zb Z + p2)), (4, .int x44_4)] [] M) (fun (M : Mem) (x72_4 : Int32) => GS Z X 72 [(0, .ref (zb Z + 124)), (1, .int p1), (2, .ref (zb Z + p2)), (4, .int x72_4)] [] M) M x72_4 → GS Z X 72 [(0, .ref (zb Z + 124)), (1, .int p1), (2, .ref (zb Z + p2)), (4, .int x72_4)] [] M := by
    intro M x72_4 h
    unfold B_Dealing_pickNext_72 at h
    refine g_aload_n (n := 73) (i := 0) C dX1_pickNext_72 rfl 0 rfl rfl ?_
    refine g_iload (n := 75) C dX1_pickNext_73 3 rfl rfl ?_
    refine g_callVi (n := 78) (kd := 1) C E (c_Dealing_isPlace hZ _ x72_4 M _ h) yi_X1_isPlace wd_664 rfl (ox_124 hZ) (by decide) (Nat.le_of_ble_eq_true rfl) dX1_pickNext_75 rfl rfl (fun r11 M10 h => ?_)
    refine g_if_ne (n := 81) (tgt := 107) C dX1_pickNext_78 (by decide) rfl (fun c => ?_) (fun c => ?_)
    · replace h := h.1 c
      refine g_aload_n (n := 108) (i := 0) C dX1_pickNext_107 rfl 0 rfl rfl ?_
      refine gf_X1_15 (n := 111) 126 C E (ox_124 hZ) rfl dX1_pickNext_108 rfl ?_
      refine g_iload_n (n := 112) (i := 1) C dX1_pickNext_111 rfl 1 rfl rfl ?_
      refine g_iload (n := 114) C dX1_pickNext_112 3 rfl rfl ?_
      refine g_iast (n := 115) C E (ox_126 hZ) h.1 dX1_pickNext_114 rfl (fun M12 eM12 => ?_)
      replace h := h.2 M12 eM12
      refine g_aload_n (n := 116) (i := 0) C dX1_pickNext_115 rfl 0 rfl rfl ?_
      refine g_dup (n := 117) C dX1_pickNext_116 rfl rfl ?_
      refine gf_X1_25 (n := 120) C E (ox_124 hZ) dX1_pickNext_117 rfl ?_
      refine g_iconst (n := 121) (1 : Int32) C dX1_pickNext_120 (by decide) rfl ?_
      refine g_iload (n := 123) C dX1_pickNext_121 3 rfl rfl ?_
      refine g_ishl (n := 124) C dX1_pickNext_123 rfl ?_
      refine g_ior (n := 125) C dX1_pickNext_124 rfl ?_
      refine gp_X1_25 (n := 128) C E (ox_124 hZ) dX1_pickNext_125 rfl (fun M13 eM13 => ?_)
      replace h := h M13 eM13
      refine g_aload_n (n := 129) (i := 0) C dX1_pickNext_128 rfl 0 rfl rfl ?_
      refine gf_X1_47 (n := 132) 128 C E (ox_124 hZ) rfl dX1_pickNext_129 rfl ?_
      refine g_aload_n (n := 133) (i := 0) C dX1_pickNext_132 rfl 0 rfl rfl ?_
      refine gf_X1_9 (n := 136) 125 C E (ox_124 hZ) rfl dX1_pickNext_133 rfl ?_
      refine g_iload_n (n := 137) (i := 1) C dX1_pickNext_136 rfl 1 rfl rfl ?_
      refine g_iald (n := 138) C E (ox_125 hZ) h.1 dX1_pickNext_137 rfl ?_
      replace h := h.2
      refine g_aload_n (n := 139) (i := 2) C dX1_pickNext_138 rfl 2 rfl rfl ?_
      refine g_aload_n (n := 140) (i := 0) C dX1_pickNext_139 rfl 0 rfl rfl ?_
      refine gf_X1_9 (n := 143) 125 C E (ox_124 hZ) rfl dX1_pickNext_140 rfl ?_
      refine g_iload (n := 145) C dX1_pickNext_143 3 rfl rfl ?_
      refine g_iald (n := 146) C E (ox_125 hZ) h.1 dX1_pickNext_145 rfl ?_
      replace h := h.2
      refine g_callNi (n := 149) (kd := 2) C E (c_House_roomOf hZ _ p2 hp2 (M13 125 (x72_4).toNatClampNeg) M13 _ h) yi_X2_roomOf wn_682 rfl (Hh.o hZ hp2) (by decide) (Nat.le_of_ble_eq_true rfl) dX1_pickNext_146 rfl rfl (fun r15 M14 h => ?_)
      refine g_callNv (n := 152) (kd := 2) C E (c_House_giveRoom hZ _ 128 (by unfold Hh; decide) (M13 125 (p1).toNatClampNeg) r15 M14 _ h) yi_X2_giveRoom wn_668 rfl (ox_128 hZ) (by decide) (Nat.le_of_ble_eq_true rfl) dX1_pickNext_149 rfl rfl (fun M16 h => ?_)
      refine g_iconst (n := 153) (1 : Int32) C dX1_pickNext_152 (by decide) rfl ?_
      exact g_zret C hr hQ dX1_pickNext_153 rfl h
    · replace h := h.2 c
      refine g_aload_n (n := 82) (i := 0) C dX1_pickNext_81 rfl 0 rfl rfl ?_
      refine gf_X1_15 (n := 85) 126 C E (ox_124 hZ) rfl dX1_pickNext_82 rfl ?_
      refine g_iload_n (n := 86) (i := 1) C dX1_pickNext_85 rfl 1 rfl rfl ?_
      refine g_iconst (n := 87) (-1 : Int32) C dX1_pickNext_86 (by decide) rfl ?_
      refine g_iast (n := 88) C E (ox_126 hZ) h.1 dX1_pickNext_87 rfl (fun M17 eM17 => ?_)
      replace h := h.2 M17 eM17
      refine g_aload_n (n := 89) (i := 0) C dX1_pickNext_88 rfl 0 rfl rfl ?_
      refine gf_X1_47 (n := 92) 128 C E (ox_124 hZ) rfl dX1_pickNext_89 rfl ?_
      refine g_aload_n (n := 93) (i := 0) C dX1_pickNext_92 rfl 0 rfl rfl ?_
      refine gf_X1_9 (n := 96) 125 C E (ox_124 hZ) rfl dX1_pickNext_93 rfl ?_
      refine g_iload_n (n := 97) (i := 1) C dX1_pickNext_96 rfl 1 rfl rfl ?_
      refine g_iald (n := 98) C E (ox_125 hZ) h.1 dX1_pickNext_97 rfl ?_
      replace h := h.2
      refine g_aload_n (n := 99) (i := 0) C dX1_pickNext_98 rfl 0 rfl rfl ?_
      refine gf_X1_28 (n := 102) C E (ox_124 hZ) dX1_pickNext_99 rfl ?_
      refine g_callNv (n := 105) (kd := 2) C E (c_House_giveRoom hZ _ 128 (by unfold Hh; decide) (M17 125 (p1).toNatClampNeg) (M17 124 8) M17 _ h) yi_X2_giveRoom wn_668 rfl (ox_128 hZ) (by decide) (Nat.le_of_ble_eq_true rfl) dX1_pickNext_102 rfl rfl (fun M18 h => ?_)
      refine g_iconst (n := 106) (0 : Int32) C dX1_pickNext_105 (by decide) rfl ?_
      exact g_zret C hr hQ dX1_pickNext_106 rfl h
  replace h := h (fun (M : Mem) (x44_4 : Int32) => GS Z X 44 [(0, .ref (zb Z + 124)), (1, .int p1), (2, .ref (zb Z + p2)), (4, .int x44_4)] [] M) (fun (M : Mem) (x72_4 : Int32) => GS Z X 72 [(0, .ref (zb Z + 124)), (1, .int p1), (2, .ref (zb Z + p2)), (4, .int x72_4)] [] M) s44 s72
  unfold B_Dealing_pickNext_i at h
  show GS Z X 0 [(0, .ref (zb Z + 124)), (1, .int p1), (2, .ref (zb Z + p2))] [] M
  refine g_aload_n (n := 1) (i := 0) C dX1_pickNext_0 rfl 0 rfl rfl ?_
  refine g_iload_n (n := 2) (i := 1) C dX1_pickNext_1 rfl 1 rfl rfl ?_
  refine g_callVi (n := 5) (kd := 1) C E (c_Dealing_isPlace hZ _ p1 M _ h) yi_X1_isPlace wd_664 rfl (ox_124 hZ) (by decide) (Nat.le_of_ble_eq_true rfl) dX1_pickNext_2 rfl rfl (fun r2 M1 h => ?_)
  refine g_if_ne (n := 8) (tgt := 10) C dX1_pickNext_5 (by decide) rfl (fun c => ?_) (fun c => ?_)
  · replace h := h.1 c
    refine g_aload_n (n := 11) (i := 0) C dX1_pickNext_10 rfl 0 rfl rfl ?_
    refine gf_X1_15 (n := 14) 126 C E (ox_124 hZ) rfl dX1_pickNext_11 rfl ?_
    refine g_iload_n (n := 15) (i := 1) C dX1_pickNext_14 rfl 1 rfl rfl ?_
    refine g_iald (n := 16) C E (ox_126 hZ) h.1 dX1_pickNext_15 rfl ?_
    replace h := h.2
    refine g_istore_n (n := 17) (i := 3) C dX1_pickNext_16 rfl (Nat.le_of_ble_eq_true rfl) rfl rfl (fun z3 ez3 => ?_)
    replace h := h z3 ez3
    refine g_aload_n (n := 18) (i := 0) C dX1_pickNext_17 rfl 1 rfl rfl ?_
    refine g_iload_n (n := 19) (i := 3) C dX1_pickNext_18 rfl 0 rfl rfl ?_
    refine g_callVi (n := 22) (kd := 1) C E (c_Dealing_isPlace hZ _ z3 M1 _ h) yi_X1_isPlace wd_664 rfl (ox_124 hZ) (by decide) (Nat.le_of_ble_eq_true rfl) dX1_pickNext_19 rfl rfl (fun r5 M4 h => ?_)
    refine g_if_eq (n := 25) (tgt := 39) C dX1_pickNext_22 (by decide) rfl (fun c => ?_) (fun c => ?_)
    · replace h := h.1 c
      refine g_iload_n (n := 40) (i := 3) C dX1_pickNext_39 rfl 0 rfl rfl ?_
      refine g_iconst (n := 41) (1 : Int32) C dX1_pickNext_40 (by decide) rfl ?_
      refine g_iadd (n := 42) C dX1_pickNext_41 rfl ?_
      refine g_istore (n := 44) (i := 4) C dX1_pickNext_42 (Nat.le_of_ble_eq_true rfl) rfl rfl (fun z6 ez6 => ?_)
      replace h := h z6 ez6
      exact g_sub [2, 3, 4, 0] rfl h
    · replace h := h.2 c
      refine g_aload_n (n := 26) (i := 0) C dX1_pickNext_25 rfl 1 rfl rfl ?_
      refine g_dup (n := 27) C dX1_pickNext_26 rfl rfl ?_
      refine gf_X1_25 (n := 30) C E (ox_124 hZ) dX1_pickNext_27 rfl ?_
      refine g_iconst (n := 31) (1 : Int32) C dX1_pickNext_30 (by decide) rfl ?_
      refine g_iload_n (n := 32) (i := 3) C dX1_pickNext_31 rfl 0 rfl rfl ?_
      refine g_ishl (n := 33) C dX1_pickNext_32 rfl ?_
      refine g_iconst (n := 34) (-1 : Int32) C dX1_pickNext_33 (by decide) rfl ?_
      refine g_ixor (n := 35) C dX1_pickNext_34 rfl ?_
      refine g_iand (n := 36) C dX1_pickNext_35 rfl ?_
      refine gp_X1_25 (n := 39) C E (ox_124 hZ) dX1_pickNext_36 rfl (fun M7 eM7 => ?_)
      replace h := h M7 eM7
      refine g_iload_n (n := 40) (i := 3) C dX1_pickNext_39 rfl 0 rfl rfl ?_
      refine g_iconst (n := 41) (1 : Int32) C dX1_pickNext_40 (by decide) rfl ?_
      refine g_iadd (n := 42) C dX1_pickNext_41 rfl ?_
      refine g_istore (n := 44) (i := 4) C dX1_pickNext_42 (Nat.le_of_ble_eq_true rfl) rfl rfl (fun z8 ez8 => ?_)
      replace h := h z8 ez8
      exact g_sub [2, 3, 4, 0] rfl h
  · replace h := h.2 c
    refine g_iconst (n := 9) (0 : Int32) C dX1_pickNext_8 (by decide) rfl ?_
    exact g_zret C hr hQ dX1_pickNext_9 rfl h
def B_Dealing_writeDown_i  (post : Mem → Prop) (R2 : Mem → Int32 → Prop) (M : Mem)  : Prop :=
  ∀ z1 : Int32, z1 = (0 : Int32) → (R2 M z1)
def B_Dealing_writeDown_2  (post : Mem → Prop) (R2 : Mem → Int32 → Prop) (M : Mem) (x2_1 : Int32) : Prop :=
  ((((7 : Int32) ≤ x2_1) → post M) ∧ ((¬ (7 : Int32) ≤ x2_1) → ((((M 124 6) ≤ x2_1) → post M) ∧ ((¬ (M 124 6) ≤ x2_1) → vp_in x2_1 7 ∧ (P_Plan_has M 4 (M 125 (x2_1).toNatClampNeg) (fun (r3 : Int32) (M2 : Mem) => (((r3 = 0) → ∀ z4 : Int32, z4 = x2_1 + (1 : Int32) → (R2 M2 z4)) ∧ ((¬ r3 = 0) → vp_in x2_1 7 ∧ (P_Dealing_isPlace M2 (M2 126 (x2_1).toNatClampNeg) (fun (r6 : Int32) (M5 : Mem) => (((r6 = 0) → ∀ z7 : Int32, z7 = x2_1 + (1 : Int32) → (R2 M5 z7)) ∧ ((¬ r6 = 0) → vp_in x2_1 7 ∧ (vp_in x2_1 7 ∧ (vp_in (M5 126 (x2_1).toNatClampNeg) 7 ∧ (vp_in (M5 125 (x2_1).toNatClampNeg) 7 ∧ (∀ M8 : Mem, M8 = mset M5 127 ((M5 125 (x2_1).toNatClampNeg)).toNatClampNeg (M5 125 ((M5 126 (x2_1).toNatClampNeg)).toNatClampNeg) → ∀ z9 : Int32, z9 = x2_1 + (1 : Int32) → (R2 M8 z9)))))))))))))))))
def P_Dealing_writeDown (M : Mem)  (post : Mem → Prop) : Prop :=
  ∀ (R2 : Mem → Int32 → Prop), (∀ (M : Mem) (x2_1 : Int32), B_Dealing_writeDown_2  post R2 M x2_1 → R2 M x2_1) → B_Dealing_writeDown_i  post R2 M
set_option maxHeartbeats 4000000 in
set_option maxRecDepth 100000 in
theorem c_Dealing_writeDown {Z : ZT} (hZ : IsX Z) (l : Launch)  (M : Mem) (post : Mem → Prop) (h : P_Dealing_writeDown M  post) : CtV Z l yX1_writeDown cX1_writeDown 2 none 1 21 [.ref (zb Z + 124)] M post := by
  refine ctV (own := RX1) rfl (by decide) (Nat.le_of_ble_eq_true rfl) (fun X C E hr hQ => ?_)
  have s2 : ∀ (M : Mem) (x2_1 : Int32), B_Dealing_writeDown_2  post (fun (M : Mem) (x2_1 : Int32) => GS Z X 2 [(0, .ref (zb Z + 124)), (1, .int x2_1)] [] M) M x2_1 → GS Z X 2 [(0, .ref (zb Z + 124)), (1, .int x2_1)] [] M := by
    intro M x2_1 h
    unfold B_Dealing_writeDown_2 at h
    refine g_iload_n (n := 3) (i := 1) C dX1_writeDown_2 rfl 1 rfl rfl ?_
    refine g_bipush (n := 5) (7 : Int32) C dX1_writeDown_3 (by decide) rfl ?_
    refine g_icmp_ge (n := 8) (tgt := 73) C dX1_writeDown_5 (by decide) rfl (fun c => ?_) (fun c => ?_)
    · replace h := h.1 c
      exact g_vret C hr hQ dX1_writeDown_73 h
    · replace h := h.2 c
      refine g_iload_n (n := 9) (i := 1) C dX1_writeDown_8 rfl 1 rfl rfl ?_
      refine g_aload_n (n := 10) (i := 0) C dX1_writeDown_9 rfl 0 rfl rfl ?_
      refine gf_X1_21 (n := 13) C E (ox_124 hZ) dX1_writeDown_10 rfl ?_
      refine g_icmp_ge (n := 16) (tgt := 73) C dX1_writeDown_13 (by decide) rfl (fun c => ?_) (fun c => ?_)
      · replace h := h.1 c
        exact g_vret C hr hQ dX1_writeDown_73 h
      · replace h := h.2 c
        refine g_aload_n (n := 17) (i := 0) C dX1_writeDown_16 rfl 0 rfl rfl ?_
        refine gf_X1_38 (n := 20) C E (ox_124 hZ) dX1_writeDown_17 rfl ?_
        refine g_aload_n (n := 21) (i := 0) C dX1_writeDown_20 rfl 0 rfl rfl ?_
        refine gf_X1_9 (n := 24) 125 C E (ox_124 hZ) rfl dX1_writeDown_21 rfl ?_
        refine g_iload_n (n := 25) (i := 1) C dX1_writeDown_24 rfl 1 rfl rfl ?_
        refine g_iald (n := 26) C E (ox_125 hZ) h.1 dX1_writeDown_25 rfl ?_
        replace h := h.2
        refine g_callNi (n := 29) (kd := 4) C E (c_Plan_has hZ _ 4 (by unfold Hp; decide) (M 125 (x2_1).toNatClampNeg) M _ h) yi_X4_has wn_691 rfl (ox_4 hZ) (by decide) (Nat.le_of_ble_eq_true rfl) dX1_writeDown_26 rfl rfl (fun r3 M2 h => ?_)
        refine g_if_eq (n := 32) (tgt := 67) C dX1_writeDown_29 (by decide) rfl (fun c => ?_) (fun c => ?_)
        · replace h := h.1 c
          refine g_iinc (n := 70) (v := (1 : Int32)) C dX1_writeDown_67 1 rfl (by decide) (Nat.le_of_ble_eq_true rfl) rfl rfl (fun z4 ez4 => ?_)
          replace h := h z4 ez4
          refine g_goto (tgt := 2) C dX1_writeDown_70 (by decide) ?_
          exact g_sub [1, 0] rfl h
        · replace h := h.2 c
          refine g_aload_n (n := 33) (i := 0) C dX1_writeDown_32 rfl 0 rfl rfl ?_
          refine g_aload_n (n := 34) (i := 0) C dX1_writeDown_33 rfl 0 rfl rfl ?_
          refine gf_X1_15 (n := 37) 126 C E (ox_124 hZ) rfl dX1_writeDown_34 rfl ?_
          refine g_iload_n (n := 38) (i := 1) C dX1_writeDown_37 rfl 1 rfl rfl ?_
          refine g_iald (n := 39) C E (ox_126 hZ) h.1 dX1_writeDown_38 rfl ?_
          replace h := h.2
          refine g_callVi (n := 42) (kd := 1) C E (c_Dealing_isPlace hZ _ (M2 126 (x2_1).toNatClampNeg) M2 _ h) yi_X1_isPlace wd_664 rfl (ox_124 hZ) (by decide) (Nat.le_of_ble_eq_true rfl) dX1_writeDown_39 rfl rfl (fun r6 M5 h => ?_)
          refine g_if_eq (n := 45) (tgt := 67) C dX1_writeDown_42 (by decide) rfl (fun c => ?_) (fun c => ?_)
          · replace h := h.1 c
            refine g_iinc (n := 70) (v := (1 : Int32)) C dX1_writeDown_67 1 rfl (by decide) (Nat.le_of_ble_eq_true rfl) rfl rfl (fun z7 ez7 => ?_)
            replace h := h z7 ez7
            refine g_goto (tgt := 2) C dX1_writeDown_70 (by decide) ?_
            exact g_sub [1, 0] rfl h
          · replace h := h.2 c
            refine g_aload_n (n := 46) (i := 0) C dX1_writeDown_45 rfl 0 rfl rfl ?_
            refine gf_X1_18 (n := 49) 127 C E (ox_124 hZ) rfl dX1_writeDown_46 rfl ?_
            refine g_aload_n (n := 50) (i := 0) C dX1_writeDown_49 rfl 0 rfl rfl ?_
            refine gf_X1_9 (n := 53) 125 C E (ox_124 hZ) rfl dX1_writeDown_50 rfl ?_
            refine g_iload_n (n := 54) (i := 1) C dX1_writeDown_53 rfl 1 rfl rfl ?_
            refine g_iald (n := 55) C E (ox_125 hZ) h.1 dX1_writeDown_54 rfl ?_
            replace h := h.2
            refine g_aload_n (n := 56) (i := 0) C dX1_writeDown_55 rfl 0 rfl rfl ?_
            refine gf_X1_9 (n := 59) 125 C E (ox_124 hZ) rfl dX1_writeDown_56 rfl ?_
            refine g_aload_n (n := 60) (i := 0) C dX1_writeDown_59 rfl 0 rfl rfl ?_
            refine gf_X1_15 (n := 63) 126 C E (ox_124 hZ) rfl dX1_writeDown_60 rfl ?_
            refine g_iload_n (n := 64) (i := 1) C dX1_writeDown_63 rfl 1 rfl rfl ?_
            refine g_iald (n := 65) C E (ox_126 hZ) h.1 dX1_writeDown_64 rfl ?_
            replace h := h.2
            refine g_iald (n := 66) C E (ox_125 hZ) h.1 dX1_writeDown_65 rfl ?_
            replace h := h.2
            refine g_iast (n := 67) C E (ox_127 hZ) h.1 dX1_writeDown_66 rfl (fun M8 eM8 => ?_)
            replace h := h.2 M8 eM8
            refine g_iinc (n := 70) (v := (1 : Int32)) C dX1_writeDown_67 1 rfl (by decide) (Nat.le_of_ble_eq_true rfl) rfl rfl (fun z9 ez9 => ?_)
            replace h := h z9 ez9
            refine g_goto (tgt := 2) C dX1_writeDown_70 (by decide) ?_
            exact g_sub [1, 0] rfl h
  replace h := h (fun (M : Mem) (x2_1 : Int32) => GS Z X 2 [(0, .ref (zb Z + 124)), (1, .int x2_1)] [] M) s2
  unfold B_Dealing_writeDown_i at h
  show GS Z X 0 [(0, .ref (zb Z + 124))] [] M
  refine g_iconst (n := 1) (0 : Int32) C dX1_writeDown_0 (by decide) rfl ?_
  refine g_istore_n (n := 2) (i := 1) C dX1_writeDown_1 rfl (Nat.le_of_ble_eq_true rfl) rfl rfl (fun z1 ez1 => ?_)
  replace h := h z1 ez1
  exact g_sub [1, 0] rfl h
def B_Dealing_search_i (p1 : Nat) (post : Mem → Prop) (R15 : Mem → Int32 → Int32 → Prop) (M : Mem)  : Prop :=
  P_Outlook_lineUp M 136 128 (fun (M1 : Mem) => ∀ z2 : Int32, z2 = (0 : Int32) → ∀ z3 : Int32, z3 = (0 : Int32) → (R15 M1 z2 z3))
def B_Dealing_search_15 (p1 : Nat) (post : Mem → Prop) (R15 : Mem → Int32 → Int32 → Prop) (M : Mem) (x15_2 : Int32) (x15_3 : Int32) : Prop :=
  ((((1000000 : Int32) ≤ x15_3) → post M) ∧ ((¬ (1000000 : Int32) ≤ x15_3) → P_Dealing_isPlace M x15_2 (fun (r5 : Int32) (M4 : Mem) => (((r5 = 0) → post M4) ∧ ((¬ r5 = 0) → P_Dealing_pickNext M4 x15_2 p1 (fun (r7 : Int32) (M6 : Mem) => (((¬ r7 = 0) → P_Outlook_reckon M6 136 128 (fun (M8 : Mem) => ((((M8 136 8) < (M8 124 9)) → (((¬ x15_2 = ((M8 124 6) - (1 : Int32))) → ∀ z9 : Int32, z9 = x15_2 + (1 : Int32) → ∀ z10 : Int32, z10 = x15_3 + (1 : Int32) → (R15 M8 z9 z10)) ∧ ((x15_2 = ((M8 124 6) - (1 : Int32))) → ∀ M11 : Mem, M11 = mset M8 124 9 (M8 136 8) → P_Dealing_writeDown M11 (fun (M12 : Mem) => ∀ z13 : Int32, z13 = x15_3 + (1 : Int32) → (R15 M12 x15_2 z13))))) ∧ ((¬ (M8 136 8) < (M8 124 9)) → ∀ z14 : Int32, z14 = x15_3 + (1 : Int32) → (R15 M8 x15_2 z14))))) ∧ ((r7 = 0) → ∀ z15 : Int32, z15 = x15_2 + (-1 : Int32) → ∀ z16 : Int32, z16 = x15_3 + (1 : Int32) → (R15 M6 z15 z16)))))))))
def P_Dealing_search (M : Mem) (p1 : Nat) (post : Mem → Prop) : Prop :=
  ∀ (R15 : Mem → Int32 → Int32 → Prop), (∀ (M : Mem) (x15_2 : Int32) (x15_3 : Int32), B_Dealing_search_15 p1 post R15 M x15_2 x15_3 → R15 M x15_2 x15_3) → B_Dealing_search_i p1 post R15 M
set_option maxHeartbeats 4000000 in
set_option maxRecDepth 100000 in
theorem c_Dealing_search {Z : ZT} (hZ : IsX Z) (l : Launch) (p1 : Nat) (hp1 : Hh p1) (M : Mem) (post : Mem → Prop) (h : P_Dealing_search M p1 post) : CtV Z l yX1_search cX1_search 4 none 4 93 [.ref (zb Z + 124), .ref (zb Z + p1)] M post := by
  refine ctV (own := RX1) rfl (by decide) (Nat.le_of_ble_eq_true rfl) (fun X C E hr hQ => ?_)
  have s15 : ∀ (M : Mem) (x15_2 : Int32) (x15_3 : Int32), B_Dealing_search_15 p1 post (fun (M : Mem) (x15_2 : Int32) (x15_3 : Int32) => GS Z X 15 [(0, .ref (zb Z + 124)), (1, .ref (zb Z + p1)), (2, .int x15_2), (3, .int x15_3)] [] M) M x15_2 x15_3 → GS Z X 15 [(0, .ref (zb Z + 124)), (1, .ref (zb Z + p1)), (2, .int x15_2), (3, .int x15_3)] [] M := by
    intro M x15_2 x15_3 h
    unfold B_Dealing_search_15 at h
    refine g_iload_n (n := 16) (i := 3) C dX1_search_15 rfl 3 rfl rfl ?_
    refine g_ldc (n := 18) (1000000 : Int32) C wd_662 dX1_search_16 rfl ?_
    refine g_icmp_ge (n := 21) (tgt := 109) C dX1_search_18 (by decide) rfl (fun c => ?_) (fun c => ?_)
    · replace h := h.1 c
      exact g_vret C hr hQ dX1_search_109 h
    · replace h := h.2 c
      refine g_aload_n (n := 22) (i := 0) C dX1_search_21 rfl 0 rfl rfl ?_
      refine g_iload_n (n := 23) (i := 2) C dX1_search_22 rfl 2 rfl rfl ?_
      refine g_callVi (n := 26) (kd := 1) C E (c_Dealing_isPlace hZ _ x15_2 M _ h) yi_X1_isPlace wd_664 rfl (ox_124 hZ) (by decide) (Nat.le_of_ble_eq_true rfl) dX1_search_23 rfl rfl (fun r5 M4 h => ?_)
      refine g_if_eq (n := 29) (tgt := 109) C dX1_search_26 (by decide) rfl (fun c => ?_) (fun c => ?_)
      · replace h := h.1 c
        exact g_vret C hr hQ dX1_search_109 h
      · replace h := h.2 c
        refine g_aload_n (n := 30) (i := 0) C dX1_search_29 rfl 0 rfl rfl ?_
        refine g_iload_n (n := 31) (i := 2) C dX1_search_30 rfl 2 rfl rfl ?_
        refine g_aload_n (n := 32) (i := 1) C dX1_search_31 rfl 1 rfl rfl ?_
        refine g_callVi (n := 35) (kd := 1) C E (c_Dealing_pickNext hZ _ x15_2 p1 hp1 M4 _ h) yi_X1_pickNext wd_678 rfl (ox_124 hZ) (by decide) (Nat.le_of_ble_eq_true rfl) dX1_search_32 rfl rfl (fun r7 M6 h => ?_)
        refine g_if_ne (n := 38) (tgt := 44) C dX1_search_35 (by decide) rfl (fun c => ?_) (fun c => ?_)
        · replace h := h.1 c
          refine g_aload_n (n := 45) (i := 0) C dX1_search_44 rfl 0 rfl rfl ?_
          refine gf_X1_54 (n := 48) 136 C E (ox_124 hZ) rfl dX1_search_45 rfl ?_
          refine g_aload_n (n := 49) (i := 0) C dX1_search_48 rfl 0 rfl rfl ?_
          refine gf_X1_47 (n := 52) 128 C E (ox_124 hZ) rfl dX1_search_49 rfl ?_
          refine g_callNv (n := 55) (kd := 3) C E (c_Outlook_reckon hZ _ 136 (by unfold Ho; decide) 128 (by unfold Hh; decide) M6 _ h) yi_X3_reckon wn_686 rfl (ox_136 hZ) (by decide) (Nat.le_of_ble_eq_true rfl) dX1_search_52 rfl rfl (fun M8 h => ?_)
          refine g_aload_n (n := 56) (i := 0) C dX1_search_55 rfl 0 rfl rfl ?_
          refine gf_X1_54 (n := 59) 136 C E (ox_124 hZ) rfl dX1_search_56 rfl ?_
          refine gf_X1_74 (n := 62) C E (ox_136 hZ) dX1_search_59 rfl ?_
          refine g_aload_n (n := 63) (i := 0) C dX1_search_62 rfl 0 rfl rfl ?_
          refine gf_X1_31 (n := 66) C E (ox_124 hZ) dX1_search_63 rfl ?_
          refine g_icmp_lt (n := 69) (tgt := 72) C dX1_search_66 (by decide) rfl (fun c => ?_) (fun c => ?_)
          · replace h := h.1 c
            refine g_iload_n (n := 73) (i := 2) C dX1_search_72 rfl 2 rfl rfl ?_
            refine g_aload_n (n := 74) (i := 0) C dX1_search_73 rfl 0 rfl rfl ?_
            refine gf_X1_21 (n := 77) C E (ox_124 hZ) dX1_search_74 rfl ?_
            refine g_iconst (n := 78) (1 : Int32) C dX1_search_77 (by decide) rfl ?_
            refine g_isub (n := 79) C dX1_search_78 rfl ?_
            refine g_icmp_ne (n := 82) (tgt := 100) C dX1_search_79 (by decide) rfl (fun c => ?_) (fun c => ?_)
            · replace h := h.1 c
              refine g_iinc (n := 103) (v := (1 : Int32)) C dX1_search_100 2 rfl (by decide) (Nat.le_of_ble_eq_true rfl) rfl rfl (fun z9 ez9 => ?_)
              replace h := h z9 ez9
              refine g_iinc (n := 106) (v := (1 : Int32)) C dX1_search_103 3 rfl (by decide) (Nat.le_of_ble_eq_true rfl) rfl rfl (fun z10 ez10 => ?_)
              replace h := h z10 ez10
              refine g_goto (tgt := 15) C dX1_search_106 (by decide) ?_
              exact g_sub [2, 3, 1, 0] rfl h
            · replace h := h.2 c
              refine g_aload_n (n := 83) (i := 0) C dX1_search_82 rfl 0 rfl rfl ?_
              refine g_aload_n (n := 84) (i := 0) C dX1_search_83 rfl 0 rfl rfl ?_
              refine gf_X1_54 (n := 87) 136 C E (ox_124 hZ) rfl dX1_search_84 rfl ?_
              refine gf_X1_74 (n := 90) C E (ox_136 hZ) dX1_search_87 rfl ?_
              refine gp_X1_31 (n := 93) C E (ox_124 hZ) dX1_search_90 rfl (fun M11 eM11 => ?_)
              replace h := h M11 eM11
              refine g_aload_n (n := 94) (i := 0) C dX1_search_93 rfl 0 rfl rfl ?_
              refine g_callVv (n := 97) (kd := 1) C E (c_Dealing_writeDown hZ _  M11 _ h) yi_X1_writeDown wd_687 rfl (ox_124 hZ) (by decide) (Nat.le_of_ble_eq_true rfl) dX1_search_94 rfl rfl (fun M12 h => ?_)
              refine g_goto (tgt := 103) C dX1_search_97 (by decide) ?_
              refine g_iinc (n := 106) (v := (1 : Int32)) C dX1_search_103 3 rfl (by decide) (Nat.le_of_ble_eq_true rfl) rfl rfl (fun z13 ez13 => ?_)
              replace h := h z13 ez13
              refine g_goto (tgt := 15) C dX1_search_106 (by decide) ?_
              exact g_sub [1, 2, 3, 0] rfl h
          · replace h := h.2 c
            refine g_goto (tgt := 103) C dX1_search_69 (by decide) ?_
            refine g_iinc (n := 106) (v := (1 : Int32)) C dX1_search_103 3 rfl (by decide) (Nat.le_of_ble_eq_true rfl) rfl rfl (fun z14 ez14 => ?_)
            replace h := h z14 ez14
            refine g_goto (tgt := 15) C dX1_search_106 (by decide) ?_
            exact g_sub [1, 2, 3, 0] rfl h
        · replace h := h.2 c
          refine g_iinc (n := 41) (v := (-1 : Int32)) C dX1_search_38 2 rfl (by decide) (Nat.le_of_ble_eq_true rfl) rfl rfl (fun z15 ez15 => ?_)
          replace h := h z15 ez15
          refine g_goto (tgt := 103) C dX1_search_41 (by decide) ?_
          refine g_iinc (n := 106) (v := (1 : Int32)) C dX1_search_103 3 rfl (by decide) (Nat.le_of_ble_eq_true rfl) rfl rfl (fun z16 ez16 => ?_)
          replace h := h z16 ez16
          refine g_goto (tgt := 15) C dX1_search_106 (by decide) ?_
          exact g_sub [2, 3, 1, 0] rfl h
  replace h := h (fun (M : Mem) (x15_2 : Int32) (x15_3 : Int32) => GS Z X 15 [(0, .ref (zb Z + 124)), (1, .ref (zb Z + p1)), (2, .int x15_2), (3, .int x15_3)] [] M) s15
  unfold B_Dealing_search_i at h
  show GS Z X 0 [(0, .ref (zb Z + 124)), (1, .ref (zb Z + p1))] [] M
  refine g_aload_n (n := 1) (i := 0) C dX1_search_0 rfl 0 rfl rfl ?_
  refine gf_X1_54 (n := 4) 136 C E (ox_124 hZ) rfl dX1_search_1 rfl ?_
  refine g_aload_n (n := 5) (i := 0) C dX1_search_4 rfl 0 rfl rfl ?_
  refine gf_X1_47 (n := 8) 128 C E (ox_124 hZ) rfl dX1_search_5 rfl ?_
  refine g_callNv (n := 11) (kd := 3) C E (c_Outlook_lineUp hZ _ 136 (by unfold Ho; decide) 128 (by unfold Hh; decide) M _ h) yi_X3_lineUp wn_677 rfl (ox_136 hZ) (by decide) (Nat.le_of_ble_eq_true rfl) dX1_search_8 rfl rfl (fun M1 h => ?_)
  refine g_iconst (n := 12) (0 : Int32) C dX1_search_11 (by decide) rfl ?_
  refine g_istore_n (n := 13) (i := 2) C dX1_search_12 rfl (Nat.le_of_ble_eq_true rfl) rfl rfl (fun z2 ez2 => ?_)
  replace h := h z2 ez2
  refine g_iconst (n := 14) (0 : Int32) C dX1_search_13 (by decide) rfl ?_
  refine g_istore_n (n := 15) (i := 3) C dX1_search_14 rfl (Nat.le_of_ble_eq_true rfl) rfl rfl (fun z3 ez3 => ?_)
  replace h := h z3 ez3
  exact g_sub [2, 3, 1, 0] rfl h
def B_Dealing_refresh_i (p1 : Nat) (post : Mem → Prop)  (M : Mem)  : Prop :=
  (((¬ (M 124 10) = 0) → ∀ M1 : Mem, M1 = mset M 124 10 (0 : Int32) → P_House_copyFrom M1 128 p1 (fun (M2 : Mem) => P_Dealing_begin M2 (fun (M3 : Mem) => (((¬ (M3 124 6) = 0) → ∀ M4 : Mem, M4 = mset M3 124 9 (100 : Int32) → P_Dealing_search M4 p1 (fun (M5 : Mem) => post M5)) ∧ (((M3 124 6) = 0) → P_Outlook_look M3 136 128 (fun (M6 : Mem) => ∀ M7 : Mem, M7 = mset M6 124 9 (M6 136 8) → post M7)))))) ∧ (((M 124 10) = 0) → post M))
def P_Dealing_refresh (M : Mem) (p1 : Nat) (post : Mem → Prop) : Prop := B_Dealing_refresh_i p1 post M
set_option maxHeartbeats 4000000 in
set_option maxRecDepth 100000 in
theorem c_Dealing_refresh {Z : ZT} (hZ : IsX Z) (l : Launch) (p1 : Nat) (hp1 : Hh p1) (M : Mem) (post : Mem → Prop) (h : P_Dealing_refresh M p1 post) : CtV Z l yX1_refresh cX1_refresh 2 none 5 116 [.ref (zb Z + 124), .ref (zb Z + p1)] M post := by
  refine ctV (own := RX1) rfl (by decide) (Nat.le_of_ble_eq_true rfl) (fun X C E hr hQ => ?_)
  unfold P_Dealing_refresh at h
  unfold B_Dealing_refresh_i at h
  show GS Z X 0 [(0, .ref (zb Z + 124)), (1, .ref (zb Z + p1))] [] M
  refine g_aload_n (n := 1) (i := 0) C dX1_refresh_0 rfl 0 rfl rfl ?_
  refine gf_X1_34 (n := 4) C E (ox_124 hZ) dX1_refresh_1 rfl ?_
  refine g_if_ne (n := 7) (tgt := 8) C dX1_refresh_4 (by decide) rfl (fun c => ?_) (fun c => ?_)
  · replace h := h.1 c
    refine g_aload_n (n := 9) (i := 0) C dX1_refresh_8 rfl 0 rfl rfl ?_
    refine g_iconst (n := 10) (0 : Int32) C dX1_refresh_9 (by decide) rfl ?_
    refine gp_X1_34 (n := 13) C E (ox_124 hZ) rfl rfl dX1_refresh_10 rfl (fun M1 eM1 => ?_)
    replace h := h M1 eM1
    refine g_aload_n (n := 14) (i := 0) C dX1_refresh_13 rfl 0 rfl rfl ?_
    refine gf_X1_47 (n := 17) 128 C E (ox_124 hZ) rfl dX1_refresh_14 rfl ?_
    refine g_aload_n (n := 18) (i := 1) C dX1_refresh_17 rfl 1 rfl rfl ?_
    refine g_callNv (n := 21) (kd := 2) C E (c_House_copyFrom hZ _ 128 (by unfold Hh; decide) p1 hp1 M1 _ h) yi_X2_copyFrom wn_657 rfl (ox_128 hZ) (by decide) (Nat.le_of_ble_eq_true rfl) dX1_refresh_18 rfl rfl (fun M2 h => ?_)
    refine g_aload_n (n := 22) (i := 0) C dX1_refresh_21 rfl 0 rfl rfl ?_
    refine g_callVv (n := 25) (kd := 1) C E (c_Dealing_begin hZ _  M2 _ h) yi_X1_begin wd_658 rfl (ox_124 hZ) (by decide) (Nat.le_of_ble_eq_true rfl) dX1_refresh_22 rfl rfl (fun M3 h => ?_)
    refine g_aload_n (n := 26) (i := 0) C dX1_refresh_25 rfl 0 rfl rfl ?_
    refine gf_X1_21 (n := 29) C E (ox_124 hZ) dX1_refresh_26 rfl ?_
    refine g_if_ne (n := 32) (tgt := 57) C dX1_refresh_29 (by decide) rfl (fun c => ?_) (fun c => ?_)
    · replace h := h.1 c
      refine g_aload_n (n := 58) (i := 0) C dX1_refresh_57 rfl 0 rfl rfl ?_
      refine g_bipush (n := 60) (100 : Int32) C dX1_refresh_58 (by decide) rfl ?_
      refine gp_X1_31 (n := 63) C E (ox_124 hZ) dX1_refresh_60 rfl (fun M4 eM4 => ?_)
      replace h := h M4 eM4
      refine g_aload_n (n := 64) (i := 0) C dX1_refresh_63 rfl 0 rfl rfl ?_
      refine g_aload_n (n := 65) (i := 1) C dX1_refresh_64 rfl 1 rfl rfl ?_
      refine g_callVv (n := 68) (kd := 1) C E (c_Dealing_search hZ _ p1 hp1 M4 _ h) yi_X1_search wd_673 rfl (ox_124 hZ) (by decide) (Nat.le_of_ble_eq_true rfl) dX1_refresh_65 rfl rfl (fun M5 h => ?_)
      exact g_vret C hr hQ dX1_refresh_68 h
    · replace h := h.2 c
      refine g_aload_n (n := 33) (i := 0) C dX1_refresh_32 rfl 0 rfl rfl ?_
      refine gf_X1_54 (n := 36) 136 C E (ox_124 hZ) rfl dX1_refresh_33 rfl ?_
      refine g_aload_n (n := 37) (i := 0) C dX1_refresh_36 rfl 0 rfl rfl ?_
      refine gf_X1_47 (n := 40) 128 C E (ox_124 hZ) rfl dX1_refresh_37 rfl ?_
      refine g_callNv (n := 43) (kd := 3) C E (c_Outlook_look hZ _ 136 (by unfold Ho; decide) 128 (by unfold Hh; decide) M3 _ h) yi_X3_look wn_672 rfl (ox_136 hZ) (by decide) (Nat.le_of_ble_eq_true rfl) dX1_refresh_40 rfl rfl (fun M6 h => ?_)
      refine g_aload_n (n := 44) (i := 0) C dX1_refresh_43 rfl 0 rfl rfl ?_
      refine g_aload_n (n := 45) (i := 0) C dX1_refresh_44 rfl 0 rfl rfl ?_
      refine gf_X1_54 (n := 48) 136 C E (ox_124 hZ) rfl dX1_refresh_45 rfl ?_
      refine gf_X1_74 (n := 51) C E (ox_136 hZ) dX1_refresh_48 rfl ?_
      refine gp_X1_31 (n := 54) C E (ox_124 hZ) dX1_refresh_51 rfl (fun M7 eM7 => ?_)
      replace h := h M7 eM7
      refine g_goto (tgt := 68) C dX1_refresh_54 (by decide) ?_
      exact g_vret C hr hQ dX1_refresh_68 h
  · replace h := h.2 c
    exact g_vret C hr hQ dX1_refresh_7 h
