def B_NB_write_i (p1 : Int32) (post : Int32 → Mem → Prop)  (M : Mem)  : Prop :=
  (((p1 < (32 : Int32)) → post (-1 : Int32) M) ∧ ((¬ p1 < (32 : Int32)) → (((p1 ≤ (126 : Int32)) → P_Script_append M p1 (fun (r2 : Int32) (M1 : Mem) => (((r2 = 0) → post (-3 : Int32) M1) ∧ ((¬ r2 = 0) → post (M1 1 2) M1)))) ∧ ((¬ p1 ≤ (126 : Int32)) → post (-1 : Int32) M))))
def P_NB_write (M : Mem) (p1 : Int32) (post : Int32 → Mem → Prop) : Prop := B_NB_write_i p1 post M
set_option maxHeartbeats 4000000 in
set_option maxRecDepth 100000 in
theorem c_NB_write {Z : ZT} (hZ : IsX Z) (l : Launch) (p1 : Int32) (M : Mem) (post : Int32 → Mem → Prop) (h : P_NB_write M p1 post) : CtI Z l yX8_write cX8_write 2 (some .int) 1 21 [.ref (zb Z + 0), .int p1] M post := by
  refine ctI (own := RX8) rfl (by decide) (Nat.le_of_ble_eq_true rfl) (fun X C E hr hQ => ?_)
  unfold P_NB_write at h
  unfold B_NB_write_i at h
  show GS Z X 0 [(0, .ref (zb Z + 0)), (1, .int p1)] [] M
  refine g_iload_n (n := 1) (i := 1) C dX8_write_0 rfl 1 rfl rfl ?_
  refine g_bipush (n := 3) (32 : Int32) C dX8_write_1 (by decide) rfl ?_
  refine g_icmp_lt (n := 6) (tgt := 12) C dX8_write_3 (by decide) rfl (fun c => ?_) (fun c => ?_)
  · replace h := h.1 c
    refine g_iconst (n := 13) (-1 : Int32) C dX8_write_12 (by decide) rfl ?_
    exact g_iret C hr hQ dX8_write_13 h
  · replace h := h.2 c
    refine g_iload_n (n := 7) (i := 1) C dX8_write_6 rfl 1 rfl rfl ?_
    refine g_bipush (n := 9) (126 : Int32) C dX8_write_7 (by decide) rfl ?_
    refine g_icmp_le (n := 12) (tgt := 14) C dX8_write_9 (by decide) rfl (fun c => ?_) (fun c => ?_)
    · replace h := h.1 c
      refine g_aload_n (n := 15) (i := 0) C dX8_write_14 rfl 0 rfl rfl ?_
      refine gf_X8_10 (n := 18) C E (ox_0 hZ) dX8_write_15 rfl ?_
      refine g_iload_n (n := 19) (i := 1) C dX8_write_18 rfl 1 rfl rfl ?_
      refine g_callNi (n := 22) (kd := 5) C E (c_Script_append hZ _ p1 M _ h) yi_X5_append wn_370 rfl (ox_1 hZ) (by decide) (Nat.le_of_ble_eq_true rfl) dX8_write_19 rfl rfl (fun r2 M1 h => ?_)
      refine g_if_eq (n := 25) (tgt := 35) C dX8_write_22 (by decide) rfl (fun c => ?_) (fun c => ?_)
      · replace h := h.1 c
        refine g_bipush (n := 37) (-3 : Int32) C dX8_write_35 (by decide) rfl ?_
        exact g_iret C hr hQ dX8_write_37 h
      · replace h := h.2 c
        refine g_aload_n (n := 26) (i := 0) C dX8_write_25 rfl 0 rfl rfl ?_
        refine gf_X8_10 (n := 29) C E (ox_0 hZ) dX8_write_26 rfl ?_
        refine gf_X8_101 (n := 32) C E (ox_1 hZ) dX8_write_29 rfl ?_
        refine g_goto (tgt := 37) C dX8_write_32 (by decide) ?_
        exact g_iret C hr hQ dX8_write_37 h
    · replace h := h.2 c
      refine g_iconst (n := 13) (-1 : Int32) C dX8_write_12 (by decide) rfl ?_
      exact g_iret C hr hQ dX8_write_13 h
def B_NB_wipe_i  (post : Int32 → Mem → Prop)  (M : Mem)  : Prop :=
  ∀ z1 : Int32, z1 = (M 1 2) → P_Script_clear M (fun (M2 : Mem) => post z1 M2)
def P_NB_wipe (M : Mem)  (post : Int32 → Mem → Prop) : Prop := B_NB_wipe_i  post M
set_option maxHeartbeats 4000000 in
set_option maxRecDepth 100000 in
theorem c_NB_wipe {Z : ZT} (hZ : IsX Z) (l : Launch)  (M : Mem) (post : Int32 → Mem → Prop) (h : P_NB_wipe M  post) : CtI Z l yX8_wipe cX8_wipe 2 (some .int) 1 20 [.ref (zb Z + 0)] M post := by
  refine ctI (own := RX8) rfl (by decide) (Nat.le_of_ble_eq_true rfl) (fun X C E hr hQ => ?_)
  unfold P_NB_wipe at h
  unfold B_NB_wipe_i at h
  show GS Z X 0 [(0, .ref (zb Z + 0))] [] M
  refine g_aload_n (n := 1) (i := 0) C dX8_wipe_0 rfl 0 rfl rfl ?_
  refine gf_X8_10 (n := 4) C E (ox_0 hZ) dX8_wipe_1 rfl ?_
  refine gf_X8_101 (n := 7) C E (ox_1 hZ) dX8_wipe_4 rfl ?_
  refine g_istore_n (n := 8) (i := 1) C dX8_wipe_7 rfl (Nat.le_of_ble_eq_true rfl) rfl rfl (fun z1 ez1 => ?_)
  replace h := h z1 ez1
  refine g_aload_n (n := 9) (i := 0) C dX8_wipe_8 rfl 1 rfl rfl ?_
  refine gf_X8_10 (n := 12) C E (ox_0 hZ) dX8_wipe_9 rfl ?_
  refine g_callNv (n := 15) (kd := 5) C E (c_Script_clear hZ _  M _ h) yi_X5_clear wn_441 rfl (ox_1 hZ) (by decide) (Nat.le_of_ble_eq_true rfl) dX8_wipe_12 rfl rfl (fun M2 h => ?_)
  refine g_iload_n (n := 16) (i := 1) C dX8_wipe_15 rfl 0 rfl rfl ?_
  exact g_iret C hr hQ dX8_wipe_16 h
def B_NB_fault_i  (post : Int32 → Mem → Prop)  (M : Mem)  : Prop :=
  P_Script_readInto M 11 (fun (r2 : Int32) (M1 : Mem) => post r2 M1)
def P_NB_fault (M : Mem)  (post : Int32 → Mem → Prop) : Prop := B_NB_fault_i  post M
set_option maxHeartbeats 4000000 in
set_option maxRecDepth 100000 in
theorem c_NB_fault {Z : ZT} (hZ : IsX Z) (l : Launch)  (M : Mem) (post : Int32 → Mem → Prop) (h : P_NB_fault M  post) : CtI Z l yX8_fault cX8_fault 1 (some .int) 5 117 [.ref (zb Z + 0)] M post := by
  refine ctI (own := RX8) rfl (by decide) (Nat.le_of_ble_eq_true rfl) (fun X C E hr hQ => ?_)
  unfold P_NB_fault at h
  unfold B_NB_fault_i at h
  show GS Z X 0 [(0, .ref (zb Z + 0))] [] M
  refine g_aload_n (n := 1) (i := 0) C dX8_fault_0 rfl 0 rfl rfl ?_
  refine gf_X8_10 (n := 4) C E (ox_0 hZ) dX8_fault_1 rfl ?_
  refine g_aload_n (n := 5) (i := 0) C dX8_fault_4 rfl 0 rfl rfl ?_
  refine gf_X8_23 (n := 8) C E (ox_0 hZ) dX8_fault_5 rfl ?_
  refine g_callNi (n := 11) (kd := 5) C E (c_Script_readInto hZ _ 11 (by unfold Hp; decide) M _ h) yi_X5_readInto wn_378 rfl (ox_1 hZ) (by decide) (Nat.le_of_ble_eq_true rfl) dX8_fault_8 rfl rfl (fun r2 M1 h => ?_)
  exact g_iret C hr hQ dX8_fault_11 h
def B_NB_layScript_i  (post : Int32 → Mem → Prop)  (M : Mem)  : Prop :=
  P_Script_readInto M 11 (fun (r2 : Int32) (M1 : Mem) => (((¬ r2 = (-4 : Int32)) → post (0 : Int32) M1) ∧ ((r2 = (-4 : Int32)) → ((((1 : Int32) ≤ (M1 11 6)) → P_Plan_copyFrom M1 4 11 (fun (M3 : Mem) => P_House_open M3 18 (fun (M4 : Mem) => P_Shelf_clear M4 40 8 (fun (M5 : Mem) => P_Shelf_clear M5 106 2 (fun (M6 : Mem) => P_Sightings_clear M6 (fun (M7 : Mem) => P_Dealing_goStale M7 (fun (M8 : Mem) => post (1 : Int32) M8))))))) ∧ ((¬ (1 : Int32) ≤ (M1 11 6)) → post (0 : Int32) M1)))))
def P_NB_layScript (M : Mem)  (post : Int32 → Mem → Prop) : Prop := B_NB_layScript_i  post M
set_option maxHeartbeats 4000000 in
set_option maxRecDepth 100000 in
theorem c_NB_layScript {Z : ZT} (hZ : IsX Z) (l : Launch)  (M : Mem) (post : Int32 → Mem → Prop) (h : P_NB_layScript M  post) : CtI Z l yX8_layScript cX8_layScript 1 (some .boolean) 5 117 [.ref (zb Z + 0)] M post := by
  refine ctI (own := RX8) rfl (by decide) (Nat.le_of_ble_eq_true rfl) (fun X C E hr hQ => ?_)
  unfold P_NB_layScript at h
  unfold B_NB_layScript_i at h
  show GS Z X 0 [(0, .ref (zb Z + 0))] [] M
  refine g_aload_n (n := 1) (i := 0) C dX8_layScript_0 rfl 0 rfl rfl ?_
  refine gf_X8_10 (n := 4) C E (ox_0 hZ) dX8_layScript_1 rfl ?_
  refine g_aload_n (n := 5) (i := 0) C dX8_layScript_4 rfl 0 rfl rfl ?_
  refine gf_X8_23 (n := 8) C E (ox_0 hZ) dX8_layScript_5 rfl ?_
  refine g_callNi (n := 11) (kd := 5) C E (c_Script_readInto hZ _ 11 (by unfold Hp; decide) M _ h) yi_X5_readInto wn_378 rfl (ox_1 hZ) (by decide) (Nat.le_of_ble_eq_true rfl) dX8_layScript_8 rfl rfl (fun r2 M1 h => ?_)
  refine g_bipush (n := 13) (-4 : Int32) C dX8_layScript_11 (by decide) rfl ?_
  refine g_icmp_ne (n := 16) (tgt := 27) C dX8_layScript_13 (by decide) rfl (fun c => ?_) (fun c => ?_)
  · replace h := h.1 c
    refine g_iconst (n := 28) (0 : Int32) C dX8_layScript_27 (by decide) rfl ?_
    exact g_zret C hr hQ dX8_layScript_28 rfl h
  · replace h := h.2 c
    refine g_aload_n (n := 17) (i := 0) C dX8_layScript_16 rfl 0 rfl rfl ?_
    refine gf_X8_23 (n := 20) C E (ox_0 hZ) dX8_layScript_17 rfl ?_
    refine gf_X8_108 (n := 23) C E (ox_11 hZ) dX8_layScript_20 rfl ?_
    refine g_iconst (n := 24) (1 : Int32) C dX8_layScript_23 (by decide) rfl ?_
    refine g_icmp_ge (n := 27) (tgt := 29) C dX8_layScript_24 (by decide) rfl (fun c => ?_) (fun c => ?_)
    · replace h := h.1 c
      refine g_aload_n (n := 30) (i := 0) C dX8_layScript_29 rfl 0 rfl rfl ?_
      refine gf_X8_19 (n := 33) C E (ox_0 hZ) dX8_layScript_30 rfl ?_
      refine g_aload_n (n := 34) (i := 0) C dX8_layScript_33 rfl 0 rfl rfl ?_
      refine gf_X8_23 (n := 37) C E (ox_0 hZ) dX8_layScript_34 rfl ?_
      refine g_callNv (n := 40) (kd := 4) C E (c_Plan_copyFrom hZ _ 4 (by unfold Hp; decide) 11 (by unfold Hp; decide) M1 _ h) yi_X4_copyFrom wn_421 rfl (ox_4 hZ) (by decide) (Nat.le_of_ble_eq_true rfl) dX8_layScript_37 rfl rfl (fun M3 h => ?_)
      refine g_aload_n (n := 41) (i := 0) C dX8_layScript_40 rfl 0 rfl rfl ?_
      refine gf_X8_31 (n := 44) C E (ox_0 hZ) dX8_layScript_41 rfl ?_
      refine g_callNv (n := 47) (kd := 2) C E (c_House_open hZ _ 18 (by unfold Hh; decide) M3 _ h) yi_X2_open wn_425 rfl (ox_18 hZ) (by decide) (Nat.le_of_ble_eq_true rfl) dX8_layScript_44 rfl rfl (fun M4 h => ?_)
      refine g_aload_n (n := 48) (i := 0) C dX8_layScript_47 rfl 0 rfl rfl ?_
      refine gf_X8_50 (n := 51) C E (ox_0 hZ) dX8_layScript_48 rfl ?_
      refine g_callNv (n := 54) (kd := 6) C E (c_Shelf_clear hZ _ 40 8 (by unfold Hf; decide) M4 _ h) yi_X6_clear wn_429 rfl (ox_40 hZ) (by decide) (Nat.le_of_ble_eq_true rfl) dX8_layScript_51 rfl rfl (fun M5 h => ?_)
      refine g_aload_n (n := 55) (i := 0) C dX8_layScript_54 rfl 0 rfl rfl ?_
      refine gf_X8_54 (n := 58) C E (ox_0 hZ) dX8_layScript_55 rfl ?_
      refine g_callNv (n := 61) (kd := 6) C E (c_Shelf_clear hZ _ 106 2 (by unfold Hf; decide) M5 _ h) yi_X6_clear wn_429 rfl (ox_106 hZ) (by decide) (Nat.le_of_ble_eq_true rfl) dX8_layScript_58 rfl rfl (fun M6 h => ?_)
      refine g_aload_n (n := 62) (i := 0) C dX8_layScript_61 rfl 0 rfl rfl ?_
      refine gf_X8_67 (n := 65) C E (ox_0 hZ) dX8_layScript_62 rfl ?_
      refine g_callNv (n := 68) (kd := 7) C E (c_Sightings_clear hZ _  M6 _ h) yi_X7_clear wn_433 rfl (ox_142 hZ) (by decide) (Nat.le_of_ble_eq_true rfl) dX8_layScript_65 rfl rfl (fun M7 h => ?_)
      refine g_aload_n (n := 69) (i := 0) C dX8_layScript_68 rfl 0 rfl rfl ?_
      refine gf_X8_60 (n := 72) C E (ox_0 hZ) dX8_layScript_69 rfl ?_
      refine g_callNv (n := 75) (kd := 1) C E (c_Dealing_goStale hZ _  M7 _ h) yi_X1_goStale wn_437 rfl (ox_124 hZ) (by decide) (Nat.le_of_ble_eq_true rfl) dX8_layScript_72 rfl rfl (fun M8 h => ?_)
      refine g_iconst (n := 76) (1 : Int32) C dX8_layScript_75 (by decide) rfl ?_
      exact g_zret C hr hQ dX8_layScript_76 rfl h
    · replace h := h.2 c
      refine g_iconst (n := 28) (0 : Int32) C dX8_layScript_27 (by decide) rfl ?_
      exact g_zret C hr hQ dX8_layScript_28 rfl h
def B_NB_lay_i  (post : Int32 → Mem → Prop)  (M : Mem)  : Prop :=
  P_NB_layScript M (fun (r2 : Int32) (M1 : Mem) => (((r2 = 0) → post (-2 : Int32) M1) ∧ ((¬ r2 = 0) → post (M1 4 6) M1)))
def P_NB_lay (M : Mem)  (post : Int32 → Mem → Prop) : Prop := B_NB_lay_i  post M
set_option maxHeartbeats 4000000 in
set_option maxRecDepth 100000 in
theorem c_NB_lay {Z : ZT} (hZ : IsX Z) (l : Launch)  (M : Mem) (post : Int32 → Mem → Prop) (h : P_NB_lay M  post) : CtI Z l yX8_lay cX8_lay 1 (some .int) 6 137 [.ref (zb Z + 0)] M post := by
  refine ctI (own := RX8) rfl (by decide) (Nat.le_of_ble_eq_true rfl) (fun X C E hr hQ => ?_)
  unfold P_NB_lay at h
  unfold B_NB_lay_i at h
  show GS Z X 0 [(0, .ref (zb Z + 0))] [] M
  refine g_aload_n (n := 1) (i := 0) C dX8_lay_0 rfl 0 rfl rfl ?_
  refine g_callVi (n := 4) (kd := 8) C E (c_NB_layScript hZ _  M _ h) yi_X8_layScript wd_374 rfl (ox_0 hZ) (by decide) (Nat.le_of_ble_eq_true rfl) dX8_lay_1 rfl rfl (fun r2 M1 h => ?_)
  refine g_if_eq (n := 7) (tgt := 17) C dX8_lay_4 (by decide) rfl (fun c => ?_) (fun c => ?_)
  · replace h := h.1 c
    refine g_bipush (n := 19) (-2 : Int32) C dX8_lay_17 (by decide) rfl ?_
    exact g_iret C hr hQ dX8_lay_19 h
  · replace h := h.2 c
    refine g_aload_n (n := 8) (i := 0) C dX8_lay_7 rfl 0 rfl rfl ?_
    refine gf_X8_19 (n := 11) C E (ox_0 hZ) dX8_lay_8 rfl ?_
    refine gf_X8_108 (n := 14) C E (ox_4 hZ) dX8_lay_11 rfl ?_
    refine g_goto (tgt := 19) C dX8_lay_14 (by decide) ?_
    exact g_iret C hr hQ dX8_lay_19 h
def B_NB_guest_i (p1 : Int32) (p2 : Int32) (post : Int32 → Mem → Prop)  (M : Mem)  : Prop :=
  P_Plan_has M 4 p1 (fun (r2 : Int32) (M1 : Mem) => (((¬ r2 = 0) → (((p2 = (0 : Int32)) → vp_in p1 7 ∧ (post (M1 5 (p1).toNatClampNeg) M1)) ∧ (((p2 = (1 : Int32)) → vp_in p1 7 ∧ (post (M1 7 (p1).toNatClampNeg) M1)) ∧ (((p2 = (2 : Int32)) → vp_in p1 7 ∧ (post (M1 8 (p1).toNatClampNeg) M1)) ∧ (((p2 = (3 : Int32)) → vp_in p1 7 ∧ (post (M1 9 (p1).toNatClampNeg) M1)) ∧ ((¬ p2 = (0 : Int32) → ¬ p2 = (1 : Int32) → ¬ p2 = (2 : Int32) → ¬ p2 = (3 : Int32) → post (-1 : Int32) M1))))))) ∧ ((r2 = 0) → post (-1 : Int32) M1)))
def P_NB_guest (M : Mem) (p1 : Int32) (p2 : Int32) (post : Int32 → Mem → Prop) : Prop := B_NB_guest_i p1 p2 post M
set_option maxHeartbeats 4000000 in
set_option maxRecDepth 100000 in
theorem c_NB_guest {Z : ZT} (hZ : IsX Z) (l : Launch) (p1 : Int32) (p2 : Int32) (M : Mem) (post : Int32 → Mem → Prop) (h : P_NB_guest M p1 p2 post) : CtI Z l yX8_guest cX8_guest 3 (some .int) 1 21 [.ref (zb Z + 0), .int p1, .int p2] M post := by
  refine ctI (own := RX8) rfl (by decide) (Nat.le_of_ble_eq_true rfl) (fun X C E hr hQ => ?_)
  unfold P_NB_guest at h
  unfold B_NB_guest_i at h
  show GS Z X 0 [(0, .ref (zb Z + 0)), (1, .int p1), (2, .int p2)] [] M
  refine g_aload_n (n := 1) (i := 0) C dX8_guest_0 rfl 0 rfl rfl ?_
  refine gf_X8_19 (n := 4) C E (ox_0 hZ) dX8_guest_1 rfl ?_
  refine g_iload_n (n := 5) (i := 1) C dX8_guest_4 rfl 1 rfl rfl ?_
  refine g_callNi (n := 8) (kd := 4) C E (c_Plan_has hZ _ 4 (by unfold Hp; decide) p1 M _ h) yi_X4_has wn_500 rfl (ox_4 hZ) (by decide) (Nat.le_of_ble_eq_true rfl) dX8_guest_5 rfl rfl (fun r2 M1 h => ?_)
  refine g_if_ne (n := 11) (tgt := 13) C dX8_guest_8 (by decide) rfl (fun c => ?_) (fun c => ?_)
  · replace h := h.1 c
    refine g_iload_n (n := 14) (i := 2) C dX8_guest_13 rfl 2 rfl rfl ?_
    by_cases c0 : p2 = (0 : Int32)
    · replace h := h.1 c0
      refine g_tableIn (off := 30) (tgt := 44) C dX8_guest_14 c0 (by decide) (by decide) rfl (by decide) ?_
      refine g_aload_n (n := 45) (i := 0) C dX8_guest_44 rfl 0 rfl rfl ?_
      refine gf_X8_19 (n := 48) C E (ox_0 hZ) dX8_guest_45 rfl ?_
      refine gf_X8_114 (n := 51) 5 C E (ox_4 hZ) rfl dX8_guest_48 rfl ?_
      refine g_iload_n (n := 52) (i := 1) C dX8_guest_51 rfl 1 rfl rfl ?_
      refine g_iald (n := 53) C E (ox_5 hZ) h.1 dX8_guest_52 rfl ?_
      replace h := h.2
      exact g_iret C hr hQ dX8_guest_53 h
    by_cases c1 : p2 = (1 : Int32)
    · replace h := h.2.1 c1
      refine g_tableIn (off := 40) (tgt := 54) C dX8_guest_14 c1 (by decide) (by decide) rfl (by decide) ?_
      refine g_aload_n (n := 55) (i := 0) C dX8_guest_54 rfl 0 rfl rfl ?_
      refine gf_X8_19 (n := 58) C E (ox_0 hZ) dX8_guest_55 rfl ?_
      refine gf_X8_118 (n := 61) 7 C E (ox_4 hZ) rfl dX8_guest_58 rfl ?_
      refine g_iload_n (n := 62) (i := 1) C dX8_guest_61 rfl 1 rfl rfl ?_
      refine g_iald (n := 63) C E (ox_7 hZ) h.1 dX8_guest_62 rfl ?_
      replace h := h.2
      exact g_iret C hr hQ dX8_guest_63 h
    by_cases c2 : p2 = (2 : Int32)
    · replace h := h.2.2.1 c2
      refine g_tableIn (off := 50) (tgt := 64) C dX8_guest_14 c2 (by decide) (by decide) rfl (by decide) ?_
      refine g_aload_n (n := 65) (i := 0) C dX8_guest_64 rfl 0 rfl rfl ?_
      refine gf_X8_19 (n := 68) C E (ox_0 hZ) dX8_guest_65 rfl ?_
      refine gf_X8_121 (n := 71) 8 C E (ox_4 hZ) rfl dX8_guest_68 rfl ?_
      refine g_iload_n (n := 72) (i := 1) C dX8_guest_71 rfl 1 rfl rfl ?_
      refine g_iald (n := 73) C E (ox_8 hZ) h.1 dX8_guest_72 rfl ?_
      replace h := h.2
      exact g_iret C hr hQ dX8_guest_73 h
    by_cases c3 : p2 = (3 : Int32)
    · replace h := h.2.2.2.1 c3
      refine g_tableIn (off := 60) (tgt := 74) C dX8_guest_14 c3 (by decide) (by decide) rfl (by decide) ?_
      refine g_aload_n (n := 75) (i := 0) C dX8_guest_74 rfl 0 rfl rfl ?_
      refine gf_X8_19 (n := 78) C E (ox_0 hZ) dX8_guest_75 rfl ?_
      refine gf_X8_124 (n := 81) 9 C E (ox_4 hZ) rfl dX8_guest_78 rfl ?_
      refine g_iload_n (n := 82) (i := 1) C dX8_guest_81 rfl 1 rfl rfl ?_
      refine g_iald (n := 83) C E (ox_9 hZ) h.1 dX8_guest_82 rfl ?_
      replace h := h.2
      exact g_iret C hr hQ dX8_guest_83 h
    replace h := h.2.2.2.2 c0 c1 c2 c3
    refine g_tableOut (tgt := 84) C dX8_guest_14 (tbl_out (fun k h1 h2 e => ?_)) (by decide) ?_
    · rcases (show k = 0 ∨ k = 1 ∨ k = 2 ∨ k = 3 by omega) with rfl | rfl | rfl | rfl
      · exact c0 e
      · exact c1 e
      · exact c2 e
      · exact c3 e
    · refine g_iconst (n := 85) (-1 : Int32) C dX8_guest_84 (by decide) rfl ?_
      exact g_iret C hr hQ dX8_guest_85 h
  · replace h := h.2 c
    refine g_iconst (n := 12) (-1 : Int32) C dX8_guest_11 (by decide) rfl ?_
    exact g_iret C hr hQ dX8_guest_12 h
def B_NB_state_i (p1 : Int32) (p2 : Int32) (post : Int32 → Mem → Prop)  (M : Mem)  : Prop :=
  P_Plan_has M 4 p1 (fun (r2 : Int32) (M1 : Mem) => (((¬ r2 = 0) → (((p2 = (0 : Int32)) → vp_in p1 7 ∧ (post (M1 19 (p1).toNatClampNeg) M1)) ∧ (((p2 = (1 : Int32)) → vp_in p1 7 ∧ (post (M1 20 (p1).toNatClampNeg) M1)) ∧ (((p2 = (2 : Int32)) → vp_in p1 7 ∧ (post (M1 21 (p1).toNatClampNeg) M1)) ∧ (((p2 = (3 : Int32)) → vp_in p1 7 ∧ (post (M1 22 (p1).toNatClampNeg) M1)) ∧ (((p2 = (4 : Int32)) → vp_in p1 7 ∧ (post (M1 23 (p1).toNatClampNeg) M1)) ∧ (((p2 = (5 : Int32)) → vp_in p1 7 ∧ (post (M1 24 (p1).toNatClampNeg) M1)) ∧ (((p2 = (6 : Int32)) → vp_in p1 7 ∧ (post (M1 25 (p1).toNatClampNeg) M1)) ∧ ((¬ p2 = (0 : Int32) → ¬ p2 = (1 : Int32) → ¬ p2 = (2 : Int32) → ¬ p2 = (3 : Int32) → ¬ p2 = (4 : Int32) → ¬ p2 = (5 : Int32) → ¬ p2 = (6 : Int32) → post (-1 : Int32) M1)))))))))) ∧ ((r2 = 0) → post (-1 : Int32) M1)))
def P_NB_state (M : Mem) (p1 : Int32) (p2 : Int32) (post : Int32 → Mem → Prop) : Prop := B_NB_state_i p1 p2 post M
set_option maxHeartbeats 4000000 in
set_option maxRecDepth 100000 in
theorem c_NB_state {Z : ZT} (hZ : IsX Z) (l : Launch) (p1 : Int32) (p2 : Int32) (M : Mem) (post : Int32 → Mem → Prop) (h : P_NB_state M p1 p2 post) : CtI Z l yX8_state cX8_state 3 (some .int) 1 21 [.ref (zb Z + 0), .int p1, .int p2] M post := by
  refine ctI (own := RX8) rfl (by decide) (Nat.le_of_ble_eq_true rfl) (fun X C E hr hQ => ?_)
  unfold P_NB_state at h
  unfold B_NB_state_i at h
  show GS Z X 0 [(0, .ref (zb Z + 0)), (1, .int p1), (2, .int p2)] [] M
  refine g_aload_n (n := 1) (i := 0) C dX8_state_0 rfl 0 rfl rfl ?_
  refine gf_X8_19 (n := 4) C E (ox_0 hZ) dX8_state_1 rfl ?_
  refine g_iload_n (n := 5) (i := 1) C dX8_state_4 rfl 1 rfl rfl ?_
  refine g_callNi (n := 8) (kd := 4) C E (c_Plan_has hZ _ 4 (by unfold Hp; decide) p1 M _ h) yi_X4_has wn_500 rfl (ox_4 hZ) (by decide) (Nat.le_of_ble_eq_true rfl) dX8_state_5 rfl rfl (fun r2 M1 h => ?_)
  refine g_if_ne (n := 11) (tgt := 13) C dX8_state_8 (by decide) rfl (fun c => ?_) (fun c => ?_)
  · replace h := h.1 c
    refine g_iload_n (n := 14) (i := 2) C dX8_state_13 rfl 2 rfl rfl ?_
    by_cases c0 : p2 = (0 : Int32)
    · replace h := h.1 c0
      refine g_tableIn (off := 42) (tgt := 56) C dX8_state_14 c0 (by decide) (by decide) rfl (by decide) ?_
      refine g_aload_n (n := 57) (i := 0) C dX8_state_56 rfl 0 rfl rfl ?_
      refine gf_X8_31 (n := 60) C E (ox_0 hZ) dX8_state_57 rfl ?_
      refine gf_X8_127 (n := 63) 19 C E (ox_18 hZ) rfl dX8_state_60 rfl ?_
      refine g_iload_n (n := 64) (i := 1) C dX8_state_63 rfl 1 rfl rfl ?_
      refine g_iald (n := 65) C E (ox_19 hZ) h.1 dX8_state_64 rfl ?_
      replace h := h.2
      exact g_iret C hr hQ dX8_state_65 h
    by_cases c1 : p2 = (1 : Int32)
    · replace h := h.2.1 c1
      refine g_tableIn (off := 52) (tgt := 66) C dX8_state_14 c1 (by decide) (by decide) rfl (by decide) ?_
      refine g_aload_n (n := 67) (i := 0) C dX8_state_66 rfl 0 rfl rfl ?_
      refine gf_X8_31 (n := 70) C E (ox_0 hZ) dX8_state_67 rfl ?_
      refine gf_X8_130 (n := 73) 20 C E (ox_18 hZ) rfl dX8_state_70 rfl ?_
      refine g_iload_n (n := 74) (i := 1) C dX8_state_73 rfl 1 rfl rfl ?_
      refine g_iald (n := 75) C E (ox_20 hZ) h.1 dX8_state_74 rfl ?_
      replace h := h.2
      exact g_iret C hr hQ dX8_state_75 h
    by_cases c2 : p2 = (2 : Int32)
    · replace h := h.2.2.1 c2
      refine g_tableIn (off := 62) (tgt := 76) C dX8_state_14 c2 (by decide) (by decide) rfl (by decide) ?_
      refine g_aload_n (n := 77) (i := 0) C dX8_state_76 rfl 0 rfl rfl ?_
      refine gf_X8_31 (n := 80) C E (ox_0 hZ) dX8_state_77 rfl ?_
      refine gf_X8_133 (n := 83) 21 C E (ox_18 hZ) rfl dX8_state_80 rfl ?_
      refine g_iload_n (n := 84) (i := 1) C dX8_state_83 rfl 1 rfl rfl ?_
      refine g_iald (n := 85) C E (ox_21 hZ) h.1 dX8_state_84 rfl ?_
      replace h := h.2
      exact g_iret C hr hQ dX8_state_85 h
    by_cases c3 : p2 = (3 : Int32)
    · replace h := h.2.2.2.1 c3
      refine g_tableIn (off := 72) (tgt := 86) C dX8_state_14 c3 (by decide) (by decide) rfl (by decide) ?_
      refine g_aload_n (n := 87) (i := 0) C dX8_state_86 rfl 0 rfl rfl ?_
      refine gf_X8_31 (n := 90) C E (ox_0 hZ) dX8_state_87 rfl ?_
      refine gf_X8_136 (n := 93) 22 C E (ox_18 hZ) rfl dX8_state_90 rfl ?_
      refine g_iload_n (n := 94) (i := 1) C dX8_state_93 rfl 1 rfl rfl ?_
      refine g_iald (n := 95) C E (ox_22 hZ) h.1 dX8_state_94 rfl ?_
      replace h := h.2
      exact g_iret C hr hQ dX8_state_95 h
    by_cases c4 : p2 = (4 : Int32)
    · replace h := h.2.2.2.2.1 c4
      refine g_tableIn (off := 82) (tgt := 96) C dX8_state_14 c4 (by decide) (by decide) rfl (by decide) ?_
      refine g_aload_n (n := 97) (i := 0) C dX8_state_96 rfl 0 rfl rfl ?_
      refine gf_X8_31 (n := 100) C E (ox_0 hZ) dX8_state_97 rfl ?_
      refine gf_X8_139 (n := 103) 23 C E (ox_18 hZ) rfl dX8_state_100 rfl ?_
      refine g_iload_n (n := 104) (i := 1) C dX8_state_103 rfl 1 rfl rfl ?_
      refine g_iald (n := 105) C E (ox_23 hZ) h.1 dX8_state_104 rfl ?_
      replace h := h.2
      exact g_iret C hr hQ dX8_state_105 h
    by_cases c5 : p2 = (5 : Int32)
    · replace h := h.2.2.2.2.2.1 c5
      refine g_tableIn (off := 92) (tgt := 106) C dX8_state_14 c5 (by decide) (by decide) rfl (by decide) ?_
      refine g_aload_n (n := 107) (i := 0) C dX8_state_106 rfl 0 rfl rfl ?_
      refine gf_X8_31 (n := 110) C E (ox_0 hZ) dX8_state_107 rfl ?_
      refine gf_X8_142 (n := 113) 24 C E (ox_18 hZ) rfl dX8_state_110 rfl ?_
      refine g_iload_n (n := 114) (i := 1) C dX8_state_113 rfl 1 rfl rfl ?_
      refine g_iald (n := 115) C E (ox_24 hZ) h.1 dX8_state_114 rfl ?_
      replace h := h.2
      exact g_iret C hr hQ dX8_state_115 h
    by_cases c6 : p2 = (6 : Int32)
    · replace h := h.2.2.2.2.2.2.1 c6
      refine g_tableIn (off := 102) (tgt := 116) C dX8_state_14 c6 (by decide) (by decide) rfl (by decide) ?_
      refine g_aload_n (n := 117) (i := 0) C dX8_state_116 rfl 0 rfl rfl ?_
      refine gf_X8_31 (n := 120) C E (ox_0 hZ) dX8_state_117 rfl ?_
      refine gf_X8_145 (n := 123) 25 C E (ox_18 hZ) rfl dX8_state_120 rfl ?_
      refine g_iload_n (n := 124) (i := 1) C dX8_state_123 rfl 1 rfl rfl ?_
      refine g_iald (n := 125) C E (ox_25 hZ) h.1 dX8_state_124 rfl ?_
      replace h := h.2
      exact g_iret C hr hQ dX8_state_125 h
    replace h := h.2.2.2.2.2.2.2 c0 c1 c2 c3 c4 c5 c6
    refine g_tableOut (tgt := 126) C dX8_state_14 (tbl_out (fun k h1 h2 e => ?_)) (by decide) ?_
    · rcases (show k = 0 ∨ k = 1 ∨ k = 2 ∨ k = 3 ∨ k = 4 ∨ k = 5 ∨ k = 6 by omega) with rfl | rfl | rfl | rfl | rfl | rfl | rfl
      · exact c0 e
      · exact c1 e
      · exact c2 e
      · exact c3 e
      · exact c4 e
      · exact c5 e
      · exact c6 e
    · refine g_iconst (n := 127) (-1 : Int32) C dX8_state_126 (by decide) rfl ?_
      exact g_iret C hr hQ dX8_state_127 h
  · replace h := h.2 c
    refine g_iconst (n := 12) (-1 : Int32) C dX8_state_11 (by decide) rfl ?_
    exact g_iret C hr hQ dX8_state_12 h
def B_NB_beginAct_i  (post : Mem → Prop)  (M : Mem)  : Prop :=
  P_Shelf_put M 40 8 18 (fun (M1 : Mem) => P_Dealing_goStale M1 (fun (M2 : Mem) => post M2))
def P_NB_beginAct (M : Mem)  (post : Mem → Prop) : Prop := B_NB_beginAct_i  post M
set_option maxHeartbeats 4000000 in
set_option maxRecDepth 100000 in
theorem c_NB_beginAct {Z : ZT} (hZ : IsX Z) (l : Launch)  (M : Mem) (post : Mem → Prop) (h : P_NB_beginAct M  post) : CtV Z l yX8_beginAct cX8_beginAct 1 none 2 45 [.ref (zb Z + 0)] M post := by
  refine ctV (own := RX8) rfl (by decide) (Nat.le_of_ble_eq_true rfl) (fun X C E hr hQ => ?_)
  unfold P_NB_beginAct at h
  unfold B_NB_beginAct_i at h
  show GS Z X 0 [(0, .ref (zb Z + 0))] [] M
  refine g_aload_n (n := 1) (i := 0) C dX8_beginAct_0 rfl 0 rfl rfl ?_
  refine gf_X8_50 (n := 4) C E (ox_0 hZ) dX8_beginAct_1 rfl ?_
  refine g_aload_n (n := 5) (i := 0) C dX8_beginAct_4 rfl 0 rfl rfl ?_
  refine gf_X8_31 (n := 8) C E (ox_0 hZ) dX8_beginAct_5 rfl ?_
  refine g_callNv (n := 11) (kd := 6) C E (c_Shelf_put hZ _ 40 8 (by unfold Hf; decide) 18 (by unfold Hh; decide) M _ h) yi_X6_put wn_516 rfl (ox_40 hZ) (by decide) (Nat.le_of_ble_eq_true rfl) dX8_beginAct_8 rfl rfl (fun M1 h => ?_)
  refine g_aload_n (n := 12) (i := 0) C dX8_beginAct_11 rfl 0 rfl rfl ?_
  refine gf_X8_60 (n := 15) C E (ox_0 hZ) dX8_beginAct_12 rfl ?_
  refine g_callNv (n := 18) (kd := 1) C E (c_Dealing_goStale hZ _  M1 _ h) yi_X1_goStale wn_437 rfl (ox_124 hZ) (by decide) (Nat.le_of_ble_eq_true rfl) dX8_beginAct_15 rfl rfl (fun M2 h => ?_)
  exact g_vret C hr hQ dX8_beginAct_18 h
def B_NB_pass_i (p1 : Int32) (post : Int32 → Mem → Prop) (R19 : Mem → Int32 → Prop) (M : Mem)  : Prop :=
  (((p1 < (1 : Int32)) → post (-1 : Int32) M) ∧ ((¬ p1 < (1 : Int32)) → (((p1 ≤ (24 : Int32)) → P_NB_beginAct M (fun (M1 : Mem) => ∀ z2 : Int32, z2 = (0 : Int32) → (R19 M1 z2))) ∧ ((¬ p1 ≤ (24 : Int32)) → post (-1 : Int32) M))))
def B_NB_pass_19 (p1 : Int32) (post : Int32 → Mem → Prop) (R19 : Mem → Int32 → Prop) (M : Mem) (x19_2 : Int32) : Prop :=
  (((p1 ≤ x19_2) → post (M 18 9) M) ∧ ((¬ p1 ≤ x19_2) → P_House_oneHour M 18 (fun (M3 : Mem) => ∀ z4 : Int32, z4 = x19_2 + (1 : Int32) → (R19 M3 z4))))
def P_NB_pass (M : Mem) (p1 : Int32) (post : Int32 → Mem → Prop) : Prop :=
  ∀ (R19 : Mem → Int32 → Prop), (∀ (M : Mem) (x19_2 : Int32), B_NB_pass_19 p1 post R19 M x19_2 → R19 M x19_2) → B_NB_pass_i p1 post R19 M
set_option maxHeartbeats 4000000 in
set_option maxRecDepth 100000 in
theorem c_NB_pass {Z : ZT} (hZ : IsX Z) (l : Launch) (p1 : Int32) (M : Mem) (post : Int32 → Mem → Prop) (h : P_NB_pass M p1 post) : CtI Z l yX8_pass cX8_pass 3 (some .int) 4 85 [.ref (zb Z + 0), .int p1] M post := by
  refine ctI (own := RX8) rfl (by decide) (Nat.le_of_ble_eq_true rfl) (fun X C E hr hQ => ?_)
  have s19 : ∀ (M : Mem) (x19_2 : Int32), B_NB_pass_19 p1 post (fun (M : Mem) (x19_2 : Int32) => GS Z X 19 [(0, .ref (zb Z + 0)), (1, .int p1), (2, .int x19_2)] [] M) M x19_2 → GS Z X 19 [(0, .ref (zb Z + 0)), (1, .int p1), (2, .int x19_2)] [] M := by
    intro M x19_2 h
    unfold B_NB_pass_19 at h
    refine g_iload_n (n := 20) (i := 2) C dX8_pass_19 rfl 2 rfl rfl ?_
    refine g_iload_n (n := 21) (i := 1) C dX8_pass_20 rfl 1 rfl rfl ?_
    refine g_icmp_ge (n := 24) (tgt := 37) C dX8_pass_21 (by decide) rfl (fun c => ?_) (fun c => ?_)
    · replace h := h.1 c
      refine g_aload_n (n := 38) (i := 0) C dX8_pass_37 rfl 0 rfl rfl ?_
      refine gf_X8_31 (n := 41) C E (ox_0 hZ) dX8_pass_38 rfl ?_
      refine gf_X8_154 (n := 44) C E (ox_18 hZ) dX8_pass_41 rfl ?_
      exact g_iret C hr hQ dX8_pass_44 h
    · replace h := h.2 c
      refine g_aload_n (n := 25) (i := 0) C dX8_pass_24 rfl 0 rfl rfl ?_
      refine gf_X8_31 (n := 28) C E (ox_0 hZ) dX8_pass_25 rfl ?_
      refine g_callNv (n := 31) (kd := 2) C E (c_House_oneHour hZ _ 18 (by unfold Hh; decide) M _ h) yi_X2_oneHour wn_532 rfl (ox_18 hZ) (by decide) (Nat.le_of_ble_eq_true rfl) dX8_pass_28 rfl rfl (fun M3 h => ?_)
      refine g_iinc (n := 34) (v := (1 : Int32)) C dX8_pass_31 2 rfl (by decide) (Nat.le_of_ble_eq_true rfl) rfl rfl (fun z4 ez4 => ?_)
      replace h := h z4 ez4
      refine g_goto (tgt := 19) C dX8_pass_34 (by decide) ?_
      exact g_sub [1, 2, 0] rfl h
  replace h := h (fun (M : Mem) (x19_2 : Int32) => GS Z X 19 [(0, .ref (zb Z + 0)), (1, .int p1), (2, .int x19_2)] [] M) s19
  unfold B_NB_pass_i at h
  show GS Z X 0 [(0, .ref (zb Z + 0)), (1, .int p1)] [] M
  refine g_iload_n (n := 1) (i := 1) C dX8_pass_0 rfl 1 rfl rfl ?_
  refine g_iconst (n := 2) (1 : Int32) C dX8_pass_1 (by decide) rfl ?_
  refine g_icmp_lt (n := 5) (tgt := 11) C dX8_pass_2 (by decide) rfl (fun c => ?_) (fun c => ?_)
  · replace h := h.1 c
    refine g_iconst (n := 12) (-1 : Int32) C dX8_pass_11 (by decide) rfl ?_
    exact g_iret C hr hQ dX8_pass_12 h
  · replace h := h.2 c
    refine g_iload_n (n := 6) (i := 1) C dX8_pass_5 rfl 1 rfl rfl ?_
    refine g_bipush (n := 8) (24 : Int32) C dX8_pass_6 (by decide) rfl ?_
    refine g_icmp_le (n := 11) (tgt := 13) C dX8_pass_8 (by decide) rfl (fun c => ?_) (fun c => ?_)
    · replace h := h.1 c
      refine g_aload_n (n := 14) (i := 0) C dX8_pass_13 rfl 0 rfl rfl ?_
      refine g_callVv (n := 17) (kd := 8) C E (c_NB_beginAct hZ _  M _ h) yi_X8_beginAct wd_512 rfl (ox_0 hZ) (by decide) (Nat.le_of_ble_eq_true rfl) dX8_pass_14 rfl rfl (fun M1 h => ?_)
      refine g_iconst (n := 18) (0 : Int32) C dX8_pass_17 (by decide) rfl ?_
      refine g_istore_n (n := 19) (i := 2) C dX8_pass_18 rfl (Nat.le_of_ble_eq_true rfl) rfl rfl (fun z2 ez2 => ?_)
      replace h := h z2 ez2
      exact g_sub [1, 2, 0] rfl h
    · replace h := h.2 c
      refine g_iconst (n := 12) (-1 : Int32) C dX8_pass_11 (by decide) rfl ?_
      exact g_iret C hr hQ dX8_pass_12 h
def B_NB_book_i (p1 : Int32) (p2 : Int32) (post : Int32 → Mem → Prop)  (M : Mem)  : Prop :=
  P_Plan_has M 4 p1 (fun (r2 : Int32) (M1 : Mem) => (((r2 = 0) → post (-1 : Int32) M1) ∧ ((¬ r2 = 0) → (((p2 < 0) → post (-1 : Int32) M1) ∧ ((¬ p2 < 0) → (((p2 ≤ (40 : Int32)) → P_House_isBooked M1 18 p1 (fun (r4 : Int32) (M3 : Mem) => (((r4 = 0) → post (-2 : Int32) M3) ∧ ((¬ r4 = 0) → ((((M3 18 9) ≤ p2) → P_NB_beginAct M3 (fun (M5 : Mem) => vp_in p1 7 ∧ (∀ z6 : Int32, z6 = (M5 20 (p1).toNatClampNeg) → P_House_rebook M5 18 p1 p2 (fun (M7 : Mem) => post z6 M7)))) ∧ ((¬ (M3 18 9) ≤ p2) → post (-2 : Int32) M3)))))) ∧ ((¬ p2 ≤ (40 : Int32)) → post (-1 : Int32) M1)))))))
def P_NB_book (M : Mem) (p1 : Int32) (p2 : Int32) (post : Int32 → Mem → Prop) : Prop := B_NB_book_i p1 p2 post M
set_option maxHeartbeats 4000000 in
set_option maxRecDepth 100000 in
theorem c_NB_book {Z : ZT} (hZ : IsX Z) (l : Launch) (p1 : Int32) (p2 : Int32) (M : Mem) (post : Int32 → Mem → Prop) (h : P_NB_book M p1 p2 post) : CtI Z l yX8_book cX8_book 4 (some .int) 3 65 [.ref (zb Z + 0), .int p1, .int p2] M post := by
  refine ctI (own := RX8) rfl (by decide) (Nat.le_of_ble_eq_true rfl) (fun X C E hr hQ => ?_)
  unfold P_NB_book at h
  unfold B_NB_book_i at h
  show GS Z X 0 [(0, .ref (zb Z + 0)), (1, .int p1), (2, .int p2)] [] M
  refine g_aload_n (n := 1) (i := 0) C dX8_book_0 rfl 0 rfl rfl ?_
  refine gf_X8_19 (n := 4) C E (ox_0 hZ) dX8_book_1 rfl ?_
  refine g_iload_n (n := 5) (i := 1) C dX8_book_4 rfl 1 rfl rfl ?_
  refine g_callNi (n := 8) (kd := 4) C E (c_Plan_has hZ _ 4 (by unfold Hp; decide) p1 M _ h) yi_X4_has wn_500 rfl (ox_4 hZ) (by decide) (Nat.le_of_ble_eq_true rfl) dX8_book_5 rfl rfl (fun r2 M1 h => ?_)
  refine g_if_eq (n := 11) (tgt := 21) C dX8_book_8 (by decide) rfl (fun c => ?_) (fun c => ?_)
  · replace h := h.1 c
    refine g_iconst (n := 22) (-1 : Int32) C dX8_book_21 (by decide) rfl ?_
    exact g_iret C hr hQ dX8_book_22 h
  · replace h := h.2 c
    refine g_iload_n (n := 12) (i := 2) C dX8_book_11 rfl 2 rfl rfl ?_
    refine g_if_lt (n := 15) (tgt := 21) C dX8_book_12 (by decide) rfl (fun c => ?_) (fun c => ?_)
    · replace h := h.1 c
      refine g_iconst (n := 22) (-1 : Int32) C dX8_book_21 (by decide) rfl ?_
      exact g_iret C hr hQ dX8_book_22 h
    · replace h := h.2 c
      refine g_iload_n (n := 16) (i := 2) C dX8_book_15 rfl 2 rfl rfl ?_
      refine g_bipush (n := 18) (40 : Int32) C dX8_book_16 (by decide) rfl ?_
      refine g_icmp_le (n := 21) (tgt := 23) C dX8_book_18 (by decide) rfl (fun c => ?_) (fun c => ?_)
      · replace h := h.1 c
        refine g_aload_n (n := 24) (i := 0) C dX8_book_23 rfl 0 rfl rfl ?_
        refine gf_X8_31 (n := 27) C E (ox_0 hZ) dX8_book_24 rfl ?_
        refine g_iload_n (n := 28) (i := 1) C dX8_book_27 rfl 1 rfl rfl ?_
        refine g_callNi (n := 31) (kd := 2) C E (c_House_isBooked hZ _ 18 (by unfold Hh; decide) p1 M1 _ h) yi_X2_isBooked wn_554 rfl (ox_18 hZ) (by decide) (Nat.le_of_ble_eq_true rfl) dX8_book_28 rfl rfl (fun r4 M3 h => ?_)
        refine g_if_eq (n := 34) (tgt := 45) C dX8_book_31 (by decide) rfl (fun c => ?_) (fun c => ?_)
        · replace h := h.1 c
          refine g_bipush (n := 47) (-2 : Int32) C dX8_book_45 (by decide) rfl ?_
          exact g_iret C hr hQ dX8_book_47 h
        · replace h := h.2 c
          refine g_iload_n (n := 35) (i := 2) C dX8_book_34 rfl 2 rfl rfl ?_
          refine g_aload_n (n := 36) (i := 0) C dX8_book_35 rfl 0 rfl rfl ?_
          refine gf_X8_31 (n := 39) C E (ox_0 hZ) dX8_book_36 rfl ?_
          refine gf_X8_154 (n := 42) C E (ox_18 hZ) dX8_book_39 rfl ?_
          refine g_icmp_ge (n := 45) (tgt := 48) C dX8_book_42 (by decide) rfl (fun c => ?_) (fun c => ?_)
          · replace h := h.1 c
            refine g_aload_n (n := 49) (i := 0) C dX8_book_48 rfl 0 rfl rfl ?_
            refine g_callVv (n := 52) (kd := 8) C E (c_NB_beginAct hZ _  M3 _ h) yi_X8_beginAct wd_512 rfl (ox_0 hZ) (by decide) (Nat.le_of_ble_eq_true rfl) dX8_book_49 rfl rfl (fun M5 h => ?_)
            refine g_aload_n (n := 53) (i := 0) C dX8_book_52 rfl 0 rfl rfl ?_
            refine gf_X8_31 (n := 56) C E (ox_0 hZ) dX8_book_53 rfl ?_
            refine gf_X8_130 (n := 59) 20 C E (ox_18 hZ) rfl dX8_book_56 rfl ?_
            refine g_iload_n (n := 60) (i := 1) C dX8_book_59 rfl 1 rfl rfl ?_
            refine g_iald (n := 61) C E (ox_20 hZ) h.1 dX8_book_60 rfl ?_
            replace h := h.2
            refine g_istore_n (n := 62) (i := 3) C dX8_book_61 rfl (Nat.le_of_ble_eq_true rfl) rfl rfl (fun z6 ez6 => ?_)
            replace h := h z6 ez6
            refine g_aload_n (n := 63) (i := 0) C dX8_book_62 rfl 1 rfl rfl ?_
            refine gf_X8_31 (n := 66) C E (ox_0 hZ) dX8_book_63 rfl ?_
            refine g_iload_n (n := 67) (i := 1) C dX8_book_66 rfl 2 rfl rfl ?_
            refine g_iload_n (n := 68) (i := 2) C dX8_book_67 rfl 3 rfl rfl ?_
            refine g_callNv (n := 71) (kd := 2) C E (c_House_rebook hZ _ 18 (by unfold Hh; decide) p1 p2 M5 _ h) yi_X2_rebook wn_558 rfl (ox_18 hZ) (by decide) (Nat.le_of_ble_eq_true rfl) dX8_book_68 rfl rfl (fun M7 h => ?_)
            refine g_iload_n (n := 72) (i := 3) C dX8_book_71 rfl 0 rfl rfl ?_
            exact g_iret C hr hQ dX8_book_72 h
          · replace h := h.2 c
            refine g_bipush (n := 47) (-2 : Int32) C dX8_book_45 (by decide) rfl ?_
            exact g_iret C hr hQ dX8_book_47 h
      · replace h := h.2 c
        refine g_iconst (n := 22) (-1 : Int32) C dX8_book_21 (by decide) rfl ?_
        exact g_iret C hr hQ dX8_book_22 h
def B_NB_call_i (p1 : Int32) (post : Int32 → Mem → Prop)  (M : Mem)  : Prop :=
  P_Plan_has M 4 p1 (fun (r2 : Int32) (M1 : Mem) => (((¬ r2 = 0) → P_House_isBooked M1 18 p1 (fun (r4 : Int32) (M3 : Mem) => (((¬ r4 = 0) → P_NB_beginAct M3 (fun (M5 : Mem) => P_House_callOff M5 18 p1 (fun (M6 : Mem) => P_House_howMany M6 18 (0 : Int32) (fun (r8 : Int32) (M7 : Mem) => post r8 M7)))) ∧ ((r4 = 0) → post (-2 : Int32) M3)))) ∧ ((r2 = 0) → post (-1 : Int32) M1)))
def P_NB_call (M : Mem) (p1 : Int32) (post : Int32 → Mem → Prop) : Prop := B_NB_call_i p1 post M
set_option maxHeartbeats 4000000 in
set_option maxRecDepth 100000 in
theorem c_NB_call {Z : ZT} (hZ : IsX Z) (l : Launch) (p1 : Int32) (M : Mem) (post : Int32 → Mem → Prop) (h : P_NB_call M p1 post) : CtI Z l yX8_call cX8_call 2 (some .int) 3 65 [.ref (zb Z + 0), .int p1] M post := by
  refine ctI (own := RX8) rfl (by decide) (Nat.le_of_ble_eq_true rfl) (fun X C E hr hQ => ?_)
  unfold P_NB_call at h
  unfold B_NB_call_i at h
  show GS Z X 0 [(0, .ref (zb Z + 0)), (1, .int p1)] [] M
  refine g_aload_n (n := 1) (i := 0) C dX8_call_0 rfl 0 rfl rfl ?_
  refine gf_X8_19 (n := 4) C E (ox_0 hZ) dX8_call_1 rfl ?_
  refine g_iload_n (n := 5) (i := 1) C dX8_call_4 rfl 1 rfl rfl ?_
  refine g_callNi (n := 8) (kd := 4) C E (c_Plan_has hZ _ 4 (by unfold Hp; decide) p1 M _ h) yi_X4_has wn_500 rfl (ox_4 hZ) (by decide) (Nat.le_of_ble_eq_true rfl) dX8_call_5 rfl rfl (fun r2 M1 h => ?_)
  refine g_if_ne (n := 11) (tgt := 13) C dX8_call_8 (by decide) rfl (fun c => ?_) (fun c => ?_)
  · replace h := h.1 c
    refine g_aload_n (n := 14) (i := 0) C dX8_call_13 rfl 0 rfl rfl ?_
    refine gf_X8_31 (n := 17) C E (ox_0 hZ) dX8_call_14 rfl ?_
    refine g_iload_n (n := 18) (i := 1) C dX8_call_17 rfl 1 rfl rfl ?_
    refine g_callNi (n := 21) (kd := 2) C E (c_House_isBooked hZ _ 18 (by unfold Hh; decide) p1 M1 _ h) yi_X2_isBooked wn_554 rfl (ox_18 hZ) (by decide) (Nat.le_of_ble_eq_true rfl) dX8_call_18 rfl rfl (fun r4 M3 h => ?_)
    refine g_if_ne (n := 24) (tgt := 27) C dX8_call_21 (by decide) rfl (fun c => ?_) (fun c => ?_)
    · replace h := h.1 c
      refine g_aload_n (n := 28) (i := 0) C dX8_call_27 rfl 0 rfl rfl ?_
      refine g_callVv (n := 31) (kd := 8) C E (c_NB_beginAct hZ _  M3 _ h) yi_X8_beginAct wd_512 rfl (ox_0 hZ) (by decide) (Nat.le_of_ble_eq_true rfl) dX8_call_28 rfl rfl (fun M5 h => ?_)
      refine g_aload_n (n := 32) (i := 0) C dX8_call_31 rfl 0 rfl rfl ?_
      refine gf_X8_31 (n := 35) C E (ox_0 hZ) dX8_call_32 rfl ?_
      refine g_iload_n (n := 36) (i := 1) C dX8_call_35 rfl 1 rfl rfl ?_
      refine g_callNv (n := 39) (kd := 2) C E (c_House_callOff hZ _ 18 (by unfold Hh; decide) p1 M5 _ h) yi_X2_callOff wn_567 rfl (ox_18 hZ) (by decide) (Nat.le_of_ble_eq_true rfl) dX8_call_36 rfl rfl (fun M6 h => ?_)
      refine g_aload_n (n := 40) (i := 0) C dX8_call_39 rfl 0 rfl rfl ?_
      refine gf_X8_31 (n := 43) C E (ox_0 hZ) dX8_call_40 rfl ?_
      refine g_iconst (n := 44) (0 : Int32) C dX8_call_43 (by decide) rfl ?_
      refine g_callNi (n := 47) (kd := 2) C E (c_House_howMany hZ _ 18 (by unfold Hh; decide) (0 : Int32) M6 _ h) yi_X2_howMany wn_571 rfl (ox_18 hZ) (by decide) (Nat.le_of_ble_eq_true rfl) dX8_call_44 rfl rfl (fun r8 M7 h => ?_)
      exact g_iret C hr hQ dX8_call_47 h
    · replace h := h.2 c
      refine g_bipush (n := 26) (-2 : Int32) C dX8_call_24 (by decide) rfl ?_
      exact g_iret C hr hQ dX8_call_26 h
  · replace h := h.2 c
    refine g_iconst (n := 12) (-1 : Int32) C dX8_call_11 (by decide) rfl ?_
    exact g_iret C hr hQ dX8_call_12 h
def B_NB_change_i (p1 : Int32) (p2 : Int32) (post : Int32 → Mem → Prop)  (M : Mem)  : Prop :=
  P_Plan_has M 4 p1 (fun (r2 : Int32) (M1 : Mem) => (((r2 = 0) → post (-1 : Int32) M1) ∧ ((¬ r2 = 0) → P_Plan_has M1 4 p2 (fun (r4 : Int32) (M3 : Mem) => (((r4 = 0) → post (-1 : Int32) M3) ∧ ((¬ r4 = 0) → (((¬ p1 = p2) → P_House_isBooked M3 18 p1 (fun (r6 : Int32) (M5 : Mem) => (((r6 = 0) → post (-2 : Int32) M5) ∧ ((¬ r6 = 0) → P_House_isBooked M5 18 p2 (fun (r8 : Int32) (M7 : Mem) => (((¬ r8 = 0) → P_NB_beginAct M7 (fun (M9 : Mem) => P_House_swapRooms M9 18 p1 p2 (fun (M10 : Mem) => vp_in p1 7 ∧ (post (M10 21 (p1).toNatClampNeg) M10)))) ∧ ((r8 = 0) → post (-2 : Int32) M7))))))) ∧ ((p1 = p2) → post (-1 : Int32) M3))))))))
def P_NB_change (M : Mem) (p1 : Int32) (p2 : Int32) (post : Int32 → Mem → Prop) : Prop := B_NB_change_i p1 p2 post M
set_option maxHeartbeats 4000000 in
set_option maxRecDepth 100000 in
theorem c_NB_change {Z : ZT} (hZ : IsX Z) (l : Launch) (p1 : Int32) (p2 : Int32) (M : Mem) (post : Int32 → Mem → Prop) (h : P_NB_change M p1 p2 post) : CtI Z l yX8_change cX8_change 3 (some .int) 3 65 [.ref (zb Z + 0), .int p1, .int p2] M post := by
  refine ctI (own := RX8) rfl (by decide) (Nat.le_of_ble_eq_true rfl) (fun X C E hr hQ => ?_)
  unfold P_NB_change at h
  unfold B_NB_change_i at h
  show GS Z X 0 [(0, .ref (zb Z + 0)), (1, .int p1), (2, .int p2)] [] M
  refine g_aload_n (n := 1) (i := 0) C dX8_change_0 rfl 0 rfl rfl ?_
  refine gf_X8_19 (n := 4) C E (ox_0 hZ) dX8_change_1 rfl ?_
  refine g_iload_n (n := 5) (i := 1) C dX8_change_4 rfl 1 rfl rfl ?_
  refine g_callNi (n := 8) (kd := 4) C E (c_Plan_has hZ _ 4 (by unfold Hp; decide) p1 M _ h) yi_X4_has wn_500 rfl (ox_4 hZ) (by decide) (Nat.le_of_ble_eq_true rfl) dX8_change_5 rfl rfl (fun r2 M1 h => ?_)
  refine g_if_eq (n := 11) (tgt := 27) C dX8_change_8 (by decide) rfl (fun c => ?_) (fun c => ?_)
  · replace h := h.1 c
    refine g_iconst (n := 28) (-1 : Int32) C dX8_change_27 (by decide) rfl ?_
    exact g_iret C hr hQ dX8_change_28 h
  · replace h := h.2 c
    refine g_aload_n (n := 12) (i := 0) C dX8_change_11 rfl 0 rfl rfl ?_
    refine gf_X8_19 (n := 15) C E (ox_0 hZ) dX8_change_12 rfl ?_
    refine g_iload_n (n := 16) (i := 2) C dX8_change_15 rfl 2 rfl rfl ?_
    refine g_callNi (n := 19) (kd := 4) C E (c_Plan_has hZ _ 4 (by unfold Hp; decide) p2 M1 _ h) yi_X4_has wn_500 rfl (ox_4 hZ) (by decide) (Nat.le_of_ble_eq_true rfl) dX8_change_16 rfl rfl (fun r4 M3 h => ?_)
    refine g_if_eq (n := 22) (tgt := 27) C dX8_change_19 (by decide) rfl (fun c => ?_) (fun c => ?_)
    · replace h := h.1 c
      refine g_iconst (n := 28) (-1 : Int32) C dX8_change_27 (by decide) rfl ?_
      exact g_iret C hr hQ dX8_change_28 h
    · replace h := h.2 c
      refine g_iload_n (n := 23) (i := 1) C dX8_change_22 rfl 1 rfl rfl ?_
      refine g_iload_n (n := 24) (i := 2) C dX8_change_23 rfl 2 rfl rfl ?_
      refine g_icmp_ne (n := 27) (tgt := 29) C dX8_change_24 (by decide) rfl (fun c => ?_) (fun c => ?_)
      · replace h := h.1 c
        refine g_aload_n (n := 30) (i := 0) C dX8_change_29 rfl 0 rfl rfl ?_
        refine gf_X8_31 (n := 33) C E (ox_0 hZ) dX8_change_30 rfl ?_
        refine g_iload_n (n := 34) (i := 1) C dX8_change_33 rfl 1 rfl rfl ?_
        refine g_callNi (n := 37) (kd := 2) C E (c_House_isBooked hZ _ 18 (by unfold Hh; decide) p1 M3 _ h) yi_X2_isBooked wn_554 rfl (ox_18 hZ) (by decide) (Nat.le_of_ble_eq_true rfl) dX8_change_34 rfl rfl (fun r6 M5 h => ?_)
        refine g_if_eq (n := 40) (tgt := 51) C dX8_change_37 (by decide) rfl (fun c => ?_) (fun c => ?_)
        · replace h := h.1 c
          refine g_bipush (n := 53) (-2 : Int32) C dX8_change_51 (by decide) rfl ?_
          exact g_iret C hr hQ dX8_change_53 h
        · replace h := h.2 c
          refine g_aload_n (n := 41) (i := 0) C dX8_change_40 rfl 0 rfl rfl ?_
          refine gf_X8_31 (n := 44) C E (ox_0 hZ) dX8_change_41 rfl ?_
          refine g_iload_n (n := 45) (i := 2) C dX8_change_44 rfl 2 rfl rfl ?_
          refine g_callNi (n := 48) (kd := 2) C E (c_House_isBooked hZ _ 18 (by unfold Hh; decide) p2 M5 _ h) yi_X2_isBooked wn_554 rfl (ox_18 hZ) (by decide) (Nat.le_of_ble_eq_true rfl) dX8_change_45 rfl rfl (fun r8 M7 h => ?_)
          refine g_if_ne (n := 51) (tgt := 54) C dX8_change_48 (by decide) rfl (fun c => ?_) (fun c => ?_)
          · replace h := h.1 c
            refine g_aload_n (n := 55) (i := 0) C dX8_change_54 rfl 0 rfl rfl ?_
            refine g_callVv (n := 58) (kd := 8) C E (c_NB_beginAct hZ _  M7 _ h) yi_X8_beginAct wd_512 rfl (ox_0 hZ) (by decide) (Nat.le_of_ble_eq_true rfl) dX8_change_55 rfl rfl (fun M9 h => ?_)
            refine g_aload_n (n := 59) (i := 0) C dX8_change_58 rfl 0 rfl rfl ?_
            refine gf_X8_31 (n := 62) C E (ox_0 hZ) dX8_change_59 rfl ?_
            refine g_iload_n (n := 63) (i := 1) C dX8_change_62 rfl 1 rfl rfl ?_
            refine g_iload_n (n := 64) (i := 2) C dX8_change_63 rfl 2 rfl rfl ?_
            refine g_callNv (n := 67) (kd := 2) C E (c_House_swapRooms hZ _ 18 (by unfold Hh; decide) p1 p2 M9 _ h) yi_X2_swapRooms wn_579 rfl (ox_18 hZ) (by decide) (Nat.le_of_ble_eq_true rfl) dX8_change_64 rfl rfl (fun M10 h => ?_)
            refine g_aload_n (n := 68) (i := 0) C dX8_change_67 rfl 0 rfl rfl ?_
            refine gf_X8_31 (n := 71) C E (ox_0 hZ) dX8_change_68 rfl ?_
            refine gf_X8_133 (n := 74) 21 C E (ox_18 hZ) rfl dX8_change_71 rfl ?_
            refine g_iload_n (n := 75) (i := 1) C dX8_change_74 rfl 1 rfl rfl ?_
            refine g_iald (n := 76) C E (ox_21 hZ) h.1 dX8_change_75 rfl ?_
            replace h := h.2
            exact g_iret C hr hQ dX8_change_76 h
          · replace h := h.2 c
            refine g_bipush (n := 53) (-2 : Int32) C dX8_change_51 (by decide) rfl ?_
            exact g_iret C hr hQ dX8_change_53 h
      · replace h := h.2 c
        refine g_iconst (n := 28) (-1 : Int32) C dX8_change_27 (by decide) rfl ?_
        exact g_iret C hr hQ dX8_change_28 h
def B_NB_undo_i  (post : Int32 → Mem → Prop)  (M : Mem)  : Prop :=
  P_Shelf_takeInto M 40 8 18 (fun (r2 : Int32) (M1 : Mem) => (((¬ r2 = 0) → P_Dealing_goStale M1 (fun (M3 : Mem) => post (M3 40 1) M3)) ∧ ((r2 = 0) → post (-2 : Int32) M1)))
def P_NB_undo (M : Mem)  (post : Int32 → Mem → Prop) : Prop := B_NB_undo_i  post M
set_option maxHeartbeats 4000000 in
set_option maxRecDepth 100000 in
theorem c_NB_undo {Z : ZT} (hZ : IsX Z) (l : Launch)  (M : Mem) (post : Int32 → Mem → Prop) (h : P_NB_undo M  post) : CtI Z l yX8_undo cX8_undo 1 (some .int) 2 44 [.ref (zb Z + 0)] M post := by
  refine ctI (own := RX8) rfl (by decide) (Nat.le_of_ble_eq_true rfl) (fun X C E hr hQ => ?_)
  unfold P_NB_undo at h
  unfold B_NB_undo_i at h
  show GS Z X 0 [(0, .ref (zb Z + 0))] [] M
  refine g_aload_n (n := 1) (i := 0) C dX8_undo_0 rfl 0 rfl rfl ?_
  refine gf_X8_50 (n := 4) C E (ox_0 hZ) dX8_undo_1 rfl ?_
  refine g_aload_n (n := 5) (i := 0) C dX8_undo_4 rfl 0 rfl rfl ?_
  refine gf_X8_31 (n := 8) C E (ox_0 hZ) dX8_undo_5 rfl ?_
  refine g_callNi (n := 11) (kd := 6) C E (c_Shelf_takeInto hZ _ 40 8 (by unfold Hf; decide) 18 (by unfold Hh; decide) M _ h) yi_X6_takeInto wn_587 rfl (ox_40 hZ) (by decide) (Nat.le_of_ble_eq_true rfl) dX8_undo_8 rfl rfl (fun r2 M1 h => ?_)
  refine g_if_ne (n := 14) (tgt := 17) C dX8_undo_11 (by decide) rfl (fun c => ?_) (fun c => ?_)
  · replace h := h.1 c
    refine g_aload_n (n := 18) (i := 0) C dX8_undo_17 rfl 0 rfl rfl ?_
    refine gf_X8_60 (n := 21) C E (ox_0 hZ) dX8_undo_18 rfl ?_
    refine g_callNv (n := 24) (kd := 1) C E (c_Dealing_goStale hZ _  M1 _ h) yi_X1_goStale wn_437 rfl (ox_124 hZ) (by decide) (Nat.le_of_ble_eq_true rfl) dX8_undo_21 rfl rfl (fun M3 h => ?_)
    refine g_aload_n (n := 25) (i := 0) C dX8_undo_24 rfl 0 rfl rfl ?_
    refine gf_X8_50 (n := 28) C E (ox_0 hZ) dX8_undo_25 rfl ?_
    refine gf_X8_182 (n := 31) C E (ox_40 hZ) dX8_undo_28 rfl ?_
    exact g_iret C hr hQ dX8_undo_31 h
  · replace h := h.2 c
    refine g_bipush (n := 16) (-2 : Int32) C dX8_undo_14 (by decide) rfl ?_
    exact g_iret C hr hQ dX8_undo_16 h
def B_NB_withinHorizon_i (p1 : Int32) (post : Int32 → Mem → Prop)  (M : Mem)  : Prop :=
  ((((99 : Int32) < p1) → post (-4 : Int32) M) ∧ ((¬ (99 : Int32) < p1) → post p1 M))
def P_NB_withinHorizon (M : Mem) (p1 : Int32) (post : Int32 → Mem → Prop) : Prop := B_NB_withinHorizon_i p1 post M
set_option maxHeartbeats 4000000 in
set_option maxRecDepth 100000 in
theorem c_NB_withinHorizon {Z : ZT} (hZ : IsX Z) (l : Launch) (p1 : Int32) (M : Mem) (post : Int32 → Mem → Prop) (h : P_NB_withinHorizon M p1 post) : CtI Z l yX8_withinHorizon cX8_withinHorizon 1 (some .int) 0 0 [.int p1] M post := by
  refine ctI (own := RX8) rfl (by decide) (Nat.le_of_ble_eq_true rfl) (fun X C E hr hQ => ?_)
  unfold P_NB_withinHorizon at h
  unfold B_NB_withinHorizon_i at h
  show GS Z X 0 [(0, .int p1)] [] M
  refine g_iload_n (n := 1) (i := 0) C dX8_withinHorizon_0 rfl 0 rfl rfl ?_
  refine g_bipush (n := 3) (99 : Int32) C dX8_withinHorizon_1 (by decide) rfl ?_
  refine g_icmp_gt (n := 6) (tgt := 10) C dX8_withinHorizon_3 (by decide) rfl (fun c => ?_) (fun c => ?_)
  · replace h := h.1 c
    refine g_bipush (n := 12) (-4 : Int32) C dX8_withinHorizon_10 (by decide) rfl ?_
    exact g_iret C hr hQ dX8_withinHorizon_12 h
  · replace h := h.2 c
    refine g_iload_n (n := 7) (i := 0) C dX8_withinHorizon_6 rfl 0 rfl rfl ?_
    refine g_goto (tgt := 12) C dX8_withinHorizon_7 (by decide) ?_
    exact g_iret C hr hQ dX8_withinHorizon_12 h
def B_NB_freed_i (p1 : Int32) (post : Int32 → Mem → Prop)  (M : Mem)  : Prop :=
  P_Plan_has M 4 p1 (fun (r2 : Int32) (M1 : Mem) => (((¬ r2 = 0) → P_Outlook_look M1 34 18 (fun (M3 : Mem) => vp_in p1 7 ∧ (P_NB_withinHorizon M3 (M3 38 (p1).toNatClampNeg) (fun (r5 : Int32) (M4 : Mem) => post r5 M4)))) ∧ ((r2 = 0) → post (-1 : Int32) M1)))
def P_NB_freed (M : Mem) (p1 : Int32) (post : Int32 → Mem → Prop) : Prop := B_NB_freed_i p1 post M
set_option maxHeartbeats 4000000 in
set_option maxRecDepth 100000 in
theorem c_NB_freed {Z : ZT} (hZ : IsX Z) (l : Launch) (p1 : Int32) (M : Mem) (post : Int32 → Mem → Prop) (h : P_NB_freed M p1 post) : CtI Z l yX8_freed cX8_freed 2 (some .int) 5 114 [.ref (zb Z + 0), .int p1] M post := by
  refine ctI (own := RX8) rfl (by decide) (Nat.le_of_ble_eq_true rfl) (fun X C E hr hQ => ?_)
  unfold P_NB_freed at h
  unfold B_NB_freed_i at h
  show GS Z X 0 [(0, .ref (zb Z + 0)), (1, .int p1)] [] M
  refine g_aload_n (n := 1) (i := 0) C dX8_freed_0 rfl 0 rfl rfl ?_
  refine gf_X8_19 (n := 4) C E (ox_0 hZ) dX8_freed_1 rfl ?_
  refine g_iload_n (n := 5) (i := 1) C dX8_freed_4 rfl 1 rfl rfl ?_
  refine g_callNi (n := 8) (kd := 4) C E (c_Plan_has hZ _ 4 (by unfold Hp; decide) p1 M _ h) yi_X4_has wn_500 rfl (ox_4 hZ) (by decide) (Nat.le_of_ble_eq_true rfl) dX8_freed_5 rfl rfl (fun r2 M1 h => ?_)
  refine g_if_ne (n := 11) (tgt := 13) C dX8_freed_8 (by decide) rfl (fun c => ?_) (fun c => ?_)
  · replace h := h.1 c
    refine g_aload_n (n := 14) (i := 0) C dX8_freed_13 rfl 0 rfl rfl ?_
    refine gf_X8_41 (n := 17) C E (ox_0 hZ) dX8_freed_14 rfl ?_
    refine g_aload_n (n := 18) (i := 0) C dX8_freed_17 rfl 0 rfl rfl ?_
    refine gf_X8_31 (n := 21) C E (ox_0 hZ) dX8_freed_18 rfl ?_
    refine g_callNv (n := 24) (kd := 3) C E (c_Outlook_look hZ _ 34 (by unfold Ho; decide) 18 (by unfold Hh; decide) M1 _ h) yi_X3_look wn_595 rfl (ox_34 hZ) (by decide) (Nat.le_of_ble_eq_true rfl) dX8_freed_21 rfl rfl (fun M3 h => ?_)
    refine g_aload_n (n := 25) (i := 0) C dX8_freed_24 rfl 0 rfl rfl ?_
    refine gf_X8_41 (n := 28) C E (ox_0 hZ) dX8_freed_25 rfl ?_
    refine gf_X8_187 (n := 31) 38 C E (ox_34 hZ) rfl dX8_freed_28 rfl ?_
    refine g_iload_n (n := 32) (i := 1) C dX8_freed_31 rfl 1 rfl rfl ?_
    refine g_iald (n := 33) C E (ox_38 hZ) h.1 dX8_freed_32 rfl ?_
    replace h := h.2
    refine g_callSi (n := 36) C E (c_NB_withinHorizon hZ _ (M3 38 (p1).toNatClampNeg) M3 _ h) ys_X8_withinHorizon wd_628 (by decide) (Nat.le_of_ble_eq_true rfl) dX8_freed_33 rfl rfl (fun r5 M4 h => ?_)
    exact g_iret C hr hQ dX8_freed_36 h
  · replace h := h.2 c
    refine g_iconst (n := 12) (-1 : Int32) C dX8_freed_11 (by decide) rfl ?_
    exact g_iret C hr hQ dX8_freed_12 h
def B_NB_task_i (p1 : Int32) (post : Int32 → Mem → Prop)  (M : Mem)  : Prop :=
  P_Plan_has M 4 p1 (fun (r2 : Int32) (M1 : Mem) => (((¬ r2 = 0) → P_Outlook_look M1 34 18 (fun (M3 : Mem) => P_House_loadSoFar M3 18 p1 (fun (r5 : Int32) (M4 : Mem) => vp_in p1 7 ∧ (post (r5 + (M4 39 (p1).toNatClampNeg)) M4)))) ∧ ((r2 = 0) → post (-1 : Int32) M1)))
def P_NB_task (M : Mem) (p1 : Int32) (post : Int32 → Mem → Prop) : Prop := B_NB_task_i p1 post M
set_option maxHeartbeats 4000000 in
set_option maxRecDepth 100000 in
theorem c_NB_task {Z : ZT} (hZ : IsX Z) (l : Launch) (p1 : Int32) (M : Mem) (post : Int32 → Mem → Prop) (h : P_NB_task M p1 post) : CtI Z l yX8_task cX8_task 2 (some .int) 5 114 [.ref (zb Z + 0), .int p1] M post := by
  refine ctI (own := RX8) rfl (by decide) (Nat.le_of_ble_eq_true rfl) (fun X C E hr hQ => ?_)
  unfold P_NB_task at h
  unfold B_NB_task_i at h
  show GS Z X 0 [(0, .ref (zb Z + 0)), (1, .int p1)] [] M
  refine g_aload_n (n := 1) (i := 0) C dX8_task_0 rfl 0 rfl rfl ?_
  refine gf_X8_19 (n := 4) C E (ox_0 hZ) dX8_task_1 rfl ?_
  refine g_iload_n (n := 5) (i := 1) C dX8_task_4 rfl 1 rfl rfl ?_
  refine g_callNi (n := 8) (kd := 4) C E (c_Plan_has hZ _ 4 (by unfold Hp; decide) p1 M _ h) yi_X4_has wn_500 rfl (ox_4 hZ) (by decide) (Nat.le_of_ble_eq_true rfl) dX8_task_5 rfl rfl (fun r2 M1 h => ?_)
  refine g_if_ne (n := 11) (tgt := 13) C dX8_task_8 (by decide) rfl (fun c => ?_) (fun c => ?_)
  · replace h := h.1 c
    refine g_aload_n (n := 14) (i := 0) C dX8_task_13 rfl 0 rfl rfl ?_
    refine gf_X8_41 (n := 17) C E (ox_0 hZ) dX8_task_14 rfl ?_
    refine g_aload_n (n := 18) (i := 0) C dX8_task_17 rfl 0 rfl rfl ?_
    refine gf_X8_31 (n := 21) C E (ox_0 hZ) dX8_task_18 rfl ?_
    refine g_callNv (n := 24) (kd := 3) C E (c_Outlook_look hZ _ 34 (by unfold Ho; decide) 18 (by unfold Hh; decide) M1 _ h) yi_X3_look wn_595 rfl (ox_34 hZ) (by decide) (Nat.le_of_ble_eq_true rfl) dX8_task_21 rfl rfl (fun M3 h => ?_)
    refine g_aload_n (n := 25) (i := 0) C dX8_task_24 rfl 0 rfl rfl ?_
    refine gf_X8_31 (n := 28) C E (ox_0 hZ) dX8_task_25 rfl ?_
    refine g_iload_n (n := 29) (i := 1) C dX8_task_28 rfl 1 rfl rfl ?_
    refine g_callNi (n := 32) (kd := 2) C E (c_House_loadSoFar hZ _ 18 (by unfold Hh; decide) p1 M3 _ h) yi_X2_loadSoFar wn_635 rfl (ox_18 hZ) (by decide) (Nat.le_of_ble_eq_true rfl) dX8_task_29 rfl rfl (fun r5 M4 h => ?_)
    refine g_aload_n (n := 33) (i := 0) C dX8_task_32 rfl 0 rfl rfl ?_
    refine gf_X8_41 (n := 36) C E (ox_0 hZ) dX8_task_33 rfl ?_
    refine gf_X8_196 (n := 39) 39 C E (ox_34 hZ) rfl dX8_task_36 rfl ?_
    refine g_iload_n (n := 40) (i := 1) C dX8_task_39 rfl 1 rfl rfl ?_
    refine g_iald (n := 41) C E (ox_39 hZ) h.1 dX8_task_40 rfl ?_
    replace h := h.2
    refine g_iadd (n := 42) C dX8_task_41 rfl ?_
    exact g_iret C hr hQ dX8_task_42 h
  · replace h := h.2 c
    refine g_iconst (n := 12) (-1 : Int32) C dX8_task_11 (by decide) rfl ?_
    exact g_iret C hr hQ dX8_task_12 h
def B_NB_early_i (p1 : Int32) (p2 : Int32) (post : Int32 → Mem → Prop) (R67 : Mem → Int32 → Int32 → Int32 → Prop) (M : Mem)  : Prop :=
  P_Plan_has M 4 p1 (fun (r2 : Int32) (M1 : Mem) => (((r2 = 0) → post (-1 : Int32) M1) ∧ ((¬ r2 = 0) → (((p2 < 0) → post (-1 : Int32) M1) ∧ ((¬ p2 < 0) → (((p2 ≤ (1 : Int32)) → P_House_isBooked M1 18 p1 (fun (r4 : Int32) (M3 : Mem) => (((¬ r4 = 0) → P_House_copyFrom M3 26 18 (fun (M5 : Mem) => ∀ z6 : Int32, z6 = (-4 : Int32) → ∀ z7 : Int32, z7 = (-4 : Int32) → ∀ z8 : Int32, z8 = (imax (0 : Int32) (M5 18 9)) → (R67 M5 z6 z7 z8))) ∧ ((r4 = 0) → post (-2 : Int32) M3)))) ∧ ((¬ p2 ≤ (1 : Int32)) → post (-1 : Int32) M1)))))))
def B_NB_early_67 (p1 : Int32) (p2 : Int32) (post : Int32 → Mem → Prop) (R67 : Mem → Int32 → Int32 → Int32 → Prop) (M : Mem) (x67_3 : Int32) (x67_4 : Int32) (x67_5 : Int32) : Prop :=
  ((((40 : Int32) < x67_5) → (((¬ p2 = 0) → post x67_4 M) ∧ ((p2 = 0) → post x67_3 M))) ∧ ((¬ (40 : Int32) < x67_5) → P_House_rebook M 26 p1 x67_5 (fun (M9 : Mem) => P_Outlook_look M9 34 26 (fun (M10 : Mem) => (((x67_3 = (-4 : Int32)) → ∀ z11 : Int32, z11 = x67_5 → vp_in p1 7 ∧ (∀ z12 : Int32, z12 = (M10 39 (p1).toNatClampNeg) → ∀ z13 : Int32, z13 = x67_5 + (1 : Int32) → (R67 M10 z11 z12 z13))) ∧ ((¬ x67_3 = (-4 : Int32)) → vp_in p1 7 ∧ ((((x67_4 ≤ (M10 39 (p1).toNatClampNeg)) → ∀ z14 : Int32, z14 = x67_5 + (1 : Int32) → (R67 M10 x67_3 x67_4 z14)) ∧ ((¬ x67_4 ≤ (M10 39 (p1).toNatClampNeg)) → ∀ z15 : Int32, z15 = x67_5 → vp_in p1 7 ∧ (∀ z16 : Int32, z16 = (M10 39 (p1).toNatClampNeg) → ∀ z17 : Int32, z17 = x67_5 + (1 : Int32) → (R67 M10 z15 z16 z17)))))))))))
def P_NB_early (M : Mem) (p1 : Int32) (p2 : Int32) (post : Int32 → Mem → Prop) : Prop :=
  ∀ (R67 : Mem → Int32 → Int32 → Int32 → Prop), (∀ (M : Mem) (x67_3 : Int32) (x67_4 : Int32) (x67_5 : Int32), B_NB_early_67 p1 p2 post R67 M x67_3 x67_4 x67_5 → R67 M x67_3 x67_4 x67_5) → B_NB_early_i p1 p2 post R67 M
set_option maxHeartbeats 4000000 in
set_option maxRecDepth 100000 in
theorem c_NB_early {Z : ZT} (hZ : IsX Z) (l : Launch) (p1 : Int32) (p2 : Int32) (M : Mem) (post : Int32 → Mem → Prop) (h : P_NB_early M p1 p2 post) : CtI Z l yX8_early cX8_early 6 (some .int) 5 114 [.ref (zb Z + 0), .int p1, .int p2] M post := by
  refine ctI (own := RX8) rfl (by decide) (Nat.le_of_ble_eq_true rfl) (fun X C E hr hQ => ?_)
  have s67 : ∀ (M : Mem) (x67_3 : Int32) (x67_4 : Int32) (x67_5 : Int32), B_NB_early_67 p1 p2 post (fun (M : Mem) (x67_3 : Int32) (x67_4 : Int32) (x67_5 : Int32) => GS Z X 67 [(0, .ref (zb Z + 0)), (1, .int p1), (2, .int p2), (3, .int x67_3), (4, .int x67_4), (5, .int x67_5)] [] M) M x67_3 x67_4 x67_5 → GS Z X 67 [(0, .ref (zb Z + 0)), (1, .int p1), (2, .int p2), (3, .int x67_3), (4, .int x67_4), (5, .int x67_5)] [] M := by
    intro M x67_3 x67_4 x67_5 h
    unfold B_NB_early_67 at h
    refine g_iload (n := 69) C dX8_early_67 5 rfl rfl ?_
    refine g_bipush (n := 71) (40 : Int32) C dX8_early_69 (by decide) rfl ?_
    refine g_icmp_gt (n := 74) (tgt := 135) C dX8_early_71 (by decide) rfl (fun c => ?_) (fun c => ?_)
    · replace h := h.1 c
      refine g_iload_n (n := 136) (i := 2) C dX8_early_135 rfl 2 rfl rfl ?_
      refine g_if_ne (n := 139) (tgt := 143) C dX8_early_136 (by decide) rfl (fun c => ?_) (fun c => ?_)
      · replace h := h.1 c
        refine g_iload (n := 145) C dX8_early_143 4 rfl rfl ?_
        exact g_iret C hr hQ dX8_early_145 h
      · replace h := h.2 c
        refine g_iload_n (n := 140) (i := 3) C dX8_early_139 rfl 3 rfl rfl ?_
        refine g_goto (tgt := 145) C dX8_early_140 (by decide) ?_
        exact g_iret C hr hQ dX8_early_145 h
    · replace h := h.2 c
      refine g_aload_n (n := 75) (i := 0) C dX8_early_74 rfl 0 rfl rfl ?_
      refine gf_X8_35 (n := 78) C E (ox_0 hZ) dX8_early_75 rfl ?_
      refine g_iload_n (n := 79) (i := 1) C dX8_early_78 rfl 1 rfl rfl ?_
      refine g_iload (n := 81) C dX8_early_79 5 rfl rfl ?_
      refine g_callNv (n := 84) (kd := 2) C E (c_House_rebook hZ _ 26 (by unfold Hh; decide) p1 x67_5 M _ h) yi_X2_rebook wn_558 rfl (ox_26 hZ) (by decide) (Nat.le_of_ble_eq_true rfl) dX8_early_81 rfl rfl (fun M9 h => ?_)
      refine g_aload_n (n := 85) (i := 0) C dX8_early_84 rfl 0 rfl rfl ?_
      refine gf_X8_41 (n := 88) C E (ox_0 hZ) dX8_early_85 rfl ?_
      refine g_aload_n (n := 89) (i := 0) C dX8_early_88 rfl 0 rfl rfl ?_
      refine gf_X8_35 (n := 92) C E (ox_0 hZ) dX8_early_89 rfl ?_
      refine g_callNv (n := 95) (kd := 3) C E (c_Outlook_look hZ _ 34 (by unfold Ho; decide) 26 (by unfold Hh; decide) M9 _ h) yi_X3_look wn_595 rfl (ox_34 hZ) (by decide) (Nat.le_of_ble_eq_true rfl) dX8_early_92 rfl rfl (fun M10 h => ?_)
      refine g_iload_n (n := 96) (i := 3) C dX8_early_95 rfl 3 rfl rfl ?_
      refine g_bipush (n := 98) (-4 : Int32) C dX8_early_96 (by decide) rfl ?_
      refine g_icmp_eq (n := 101) (tgt := 115) C dX8_early_98 (by decide) rfl (fun c => ?_) (fun c => ?_)
      · replace h := h.1 c
        refine g_iload (n := 117) C dX8_early_115 5 rfl rfl ?_
        refine g_istore_n (n := 118) (i := 3) C dX8_early_117 rfl (Nat.le_of_ble_eq_true rfl) rfl rfl (fun z11 ez11 => ?_)
        replace h := h z11 ez11
        refine g_aload_n (n := 119) (i := 0) C dX8_early_118 rfl 1 rfl rfl ?_
        refine gf_X8_41 (n := 122) C E (ox_0 hZ) dX8_early_119 rfl ?_
        refine gf_X8_196 (n := 125) 39 C E (ox_34 hZ) rfl dX8_early_122 rfl ?_
        refine g_iload_n (n := 126) (i := 1) C dX8_early_125 rfl 2 rfl rfl ?_
        refine g_iald (n := 127) C E (ox_39 hZ) h.1 dX8_early_126 rfl ?_
        replace h := h.2
        refine g_istore (n := 129) (i := 4) C dX8_early_127 (Nat.le_of_ble_eq_true rfl) rfl rfl (fun z12 ez12 => ?_)
        replace h := h z12 ez12
        refine g_iinc (n := 132) (v := (1 : Int32)) C dX8_early_129 5 rfl (by decide) (Nat.le_of_ble_eq_true rfl) rfl rfl (fun z13 ez13 => ?_)
        replace h := h z13 ez13
        refine g_goto (tgt := 67) C dX8_early_132 (by decide) ?_
        exact g_sub [3, 4, 5, 2, 1, 0] rfl h
      · replace h := h.2 c
        refine g_aload_n (n := 102) (i := 0) C dX8_early_101 rfl 0 rfl rfl ?_
        refine gf_X8_41 (n := 105) C E (ox_0 hZ) dX8_early_102 rfl ?_
        refine gf_X8_196 (n := 108) 39 C E (ox_34 hZ) rfl dX8_early_105 rfl ?_
        refine g_iload_n (n := 109) (i := 1) C dX8_early_108 rfl 1 rfl rfl ?_
        refine g_iald (n := 110) C E (ox_39 hZ) h.1 dX8_early_109 rfl ?_
        replace h := h.2
        refine g_iload (n := 112) C dX8_early_110 4 rfl rfl ?_
        refine g_icmp_ge (n := 115) (tgt := 129) C dX8_early_112 (by decide) rfl (fun c => ?_) (fun c => ?_)
        · replace h := h.1 c
          refine g_iinc (n := 132) (v := (1 : Int32)) C dX8_early_129 5 rfl (by decide) (Nat.le_of_ble_eq_true rfl) rfl rfl (fun z14 ez14 => ?_)
          replace h := h z14 ez14
          refine g_goto (tgt := 67) C dX8_early_132 (by decide) ?_
          exact g_sub [1, 2, 3, 4, 5, 0] rfl h
        · replace h := h.2 c
          refine g_iload (n := 117) C dX8_early_115 5 rfl rfl ?_
          refine g_istore_n (n := 118) (i := 3) C dX8_early_117 rfl (Nat.le_of_ble_eq_true rfl) rfl rfl (fun z15 ez15 => ?_)
          replace h := h z15 ez15
          refine g_aload_n (n := 119) (i := 0) C dX8_early_118 rfl 1 rfl rfl ?_
          refine gf_X8_41 (n := 122) C E (ox_0 hZ) dX8_early_119 rfl ?_
          refine gf_X8_196 (n := 125) 39 C E (ox_34 hZ) rfl dX8_early_122 rfl ?_
          refine g_iload_n (n := 126) (i := 1) C dX8_early_125 rfl 2 rfl rfl ?_
          refine g_iald (n := 127) C E (ox_39 hZ) h.1 dX8_early_126 rfl ?_
          replace h := h.2
          refine g_istore (n := 129) (i := 4) C dX8_early_127 (Nat.le_of_ble_eq_true rfl) rfl rfl (fun z16 ez16 => ?_)
          replace h := h z16 ez16
          refine g_iinc (n := 132) (v := (1 : Int32)) C dX8_early_129 5 rfl (by decide) (Nat.le_of_ble_eq_true rfl) rfl rfl (fun z17 ez17 => ?_)
          replace h := h z17 ez17
          refine g_goto (tgt := 67) C dX8_early_132 (by decide) ?_
          exact g_sub [3, 4, 5, 2, 1, 0] rfl h
  replace h := h (fun (M : Mem) (x67_3 : Int32) (x67_4 : Int32) (x67_5 : Int32) => GS Z X 67 [(0, .ref (zb Z + 0)), (1, .int p1), (2, .int p2), (3, .int x67_3), (4, .int x67_4), (5, .int x67_5)] [] M) s67
  unfold B_NB_early_i at h
  show GS Z X 0 [(0, .ref (zb Z + 0)), (1, .int p1), (2, .int p2)] [] M
  refine g_aload_n (n := 1) (i := 0) C dX8_early_0 rfl 0 rfl rfl ?_
  refine gf_X8_19 (n := 4) C E (ox_0 hZ) dX8_early_1 rfl ?_
  refine g_iload_n (n := 5) (i := 1) C dX8_early_4 rfl 1 rfl rfl ?_
  refine g_callNi (n := 8) (kd := 4) C E (c_Plan_has hZ _ 4 (by unfold Hp; decide) p1 M _ h) yi_X4_has wn_500 rfl (ox_4 hZ) (by decide) (Nat.le_of_ble_eq_true rfl) dX8_early_5 rfl rfl (fun r2 M1 h => ?_)
  refine g_if_eq (n := 11) (tgt := 20) C dX8_early_8 (by decide) rfl (fun c => ?_) (fun c => ?_)
  · replace h := h.1 c
    refine g_iconst (n := 21) (-1 : Int32) C dX8_early_20 (by decide) rfl ?_
    exact g_iret C hr hQ dX8_early_21 h
  · replace h := h.2 c
    refine g_iload_n (n := 12) (i := 2) C dX8_early_11 rfl 2 rfl rfl ?_
    refine g_if_lt (n := 15) (tgt := 20) C dX8_early_12 (by decide) rfl (fun c => ?_) (fun c => ?_)
    · replace h := h.1 c
      refine g_iconst (n := 21) (-1 : Int32) C dX8_early_20 (by decide) rfl ?_
      exact g_iret C hr hQ dX8_early_21 h
    · replace h := h.2 c
      refine g_iload_n (n := 16) (i := 2) C dX8_early_15 rfl 2 rfl rfl ?_
      refine g_iconst (n := 17) (1 : Int32) C dX8_early_16 (by decide) rfl ?_
      refine g_icmp_le (n := 20) (tgt := 22) C dX8_early_17 (by decide) rfl (fun c => ?_) (fun c => ?_)
      · replace h := h.1 c
        refine g_aload_n (n := 23) (i := 0) C dX8_early_22 rfl 0 rfl rfl ?_
        refine gf_X8_31 (n := 26) C E (ox_0 hZ) dX8_early_23 rfl ?_
        refine g_iload_n (n := 27) (i := 1) C dX8_early_26 rfl 1 rfl rfl ?_
        refine g_callNi (n := 30) (kd := 2) C E (c_House_isBooked hZ _ 18 (by unfold Hh; decide) p1 M1 _ h) yi_X2_isBooked wn_554 rfl (ox_18 hZ) (by decide) (Nat.le_of_ble_eq_true rfl) dX8_early_27 rfl rfl (fun r4 M3 h => ?_)
        refine g_if_ne (n := 33) (tgt := 36) C dX8_early_30 (by decide) rfl (fun c => ?_) (fun c => ?_)
        · replace h := h.1 c
          refine g_aload_n (n := 37) (i := 0) C dX8_early_36 rfl 0 rfl rfl ?_
          refine gf_X8_35 (n := 40) C E (ox_0 hZ) dX8_early_37 rfl ?_
          refine g_aload_n (n := 41) (i := 0) C dX8_early_40 rfl 0 rfl rfl ?_
          refine gf_X8_31 (n := 44) C E (ox_0 hZ) dX8_early_41 rfl ?_
          refine g_callNv (n := 47) (kd := 2) C E (c_House_copyFrom hZ _ 26 (by unfold Hh; decide) 18 (by unfold Hh; decide) M3 _ h) yi_X2_copyFrom wn_643 rfl (ox_26 hZ) (by decide) (Nat.le_of_ble_eq_true rfl) dX8_early_44 rfl rfl (fun M5 h => ?_)
          refine g_bipush (n := 49) (-4 : Int32) C dX8_early_47 (by decide) rfl ?_
          refine g_istore_n (n := 50) (i := 3) C dX8_early_49 rfl (Nat.le_of_ble_eq_true rfl) rfl rfl (fun z6 ez6 => ?_)
          replace h := h z6 ez6
          refine g_bipush (n := 52) (-4 : Int32) C dX8_early_50 (by decide) rfl ?_
          refine g_istore (n := 54) (i := 4) C dX8_early_52 (Nat.le_of_ble_eq_true rfl) rfl rfl (fun z7 ez7 => ?_)
          replace h := h z7 ez7
          refine g_iconst (n := 55) (0 : Int32) C dX8_early_54 (by decide) rfl ?_
          refine g_aload_n (n := 56) (i := 0) C dX8_early_55 rfl 2 rfl rfl ?_
          refine gf_X8_31 (n := 59) C E (ox_0 hZ) dX8_early_56 rfl ?_
          refine gf_X8_154 (n := 62) C E (ox_18 hZ) dX8_early_59 rfl ?_
          refine g_mmax (n := 65) C wd_644 wq_193 wq_7 wq_194 (by decide) (Nat.le_of_ble_eq_true rfl) dX8_early_62 rfl ?_
          refine g_istore (n := 67) (i := 5) C dX8_early_65 (Nat.le_of_ble_eq_true rfl) rfl rfl (fun z8 ez8 => ?_)
          replace h := h z8 ez8
          exact g_sub [3, 4, 5, 2, 1, 0] rfl h
        · replace h := h.2 c
          refine g_bipush (n := 35) (-2 : Int32) C dX8_early_33 (by decide) rfl ?_
          exact g_iret C hr hQ dX8_early_35 h
      · replace h := h.2 c
        refine g_iconst (n := 21) (-1 : Int32) C dX8_early_20 (by decide) rfl ?_
        exact g_iret C hr hQ dX8_early_21 h
def B_NB_done_i  (post : Int32 → Mem → Prop)  (M : Mem)  : Prop :=
  P_Outlook_look M 34 18 (fun (M1 : Mem) => P_NB_withinHorizon M1 (M1 34 8) (fun (r3 : Int32) (M2 : Mem) => post r3 M2))
def P_NB_done (M : Mem)  (post : Int32 → Mem → Prop) : Prop := B_NB_done_i  post M
set_option maxHeartbeats 4000000 in
set_option maxRecDepth 100000 in
theorem c_NB_done {Z : ZT} (hZ : IsX Z) (l : Launch)  (M : Mem) (post : Int32 → Mem → Prop) (h : P_NB_done M  post) : CtI Z l yX8_done cX8_done 1 (some .int) 5 114 [.ref (zb Z + 0)] M post := by
  refine ctI (own := RX8) rfl (by decide) (Nat.le_of_ble_eq_true rfl) (fun X C E hr hQ => ?_)
  unfold P_NB_done at h
  unfold B_NB_done_i at h
  show GS Z X 0 [(0, .ref (zb Z + 0))] [] M
  refine g_aload_n (n := 1) (i := 0) C dX8_done_0 rfl 0 rfl rfl ?_
  refine gf_X8_41 (n := 4) C E (ox_0 hZ) dX8_done_1 rfl ?_
  refine g_aload_n (n := 5) (i := 0) C dX8_done_4 rfl 0 rfl rfl ?_
  refine gf_X8_31 (n := 8) C E (ox_0 hZ) dX8_done_5 rfl ?_
  refine g_callNv (n := 11) (kd := 3) C E (c_Outlook_look hZ _ 34 (by unfold Ho; decide) 18 (by unfold Hh; decide) M _ h) yi_X3_look wn_595 rfl (ox_34 hZ) (by decide) (Nat.le_of_ble_eq_true rfl) dX8_done_8 rfl rfl (fun M1 h => ?_)
  refine g_aload_n (n := 12) (i := 0) C dX8_done_11 rfl 0 rfl rfl ?_
  refine gf_X8_41 (n := 15) C E (ox_0 hZ) dX8_done_12 rfl ?_
  refine gf_X8_208 (n := 18) C E (ox_34 hZ) dX8_done_15 rfl ?_
  refine g_callSi (n := 21) C E (c_NB_withinHorizon hZ _ (M1 34 8) M1 _ h) ys_X8_withinHorizon wd_628 (by decide) (Nat.le_of_ble_eq_true rfl) dX8_done_18 rfl rfl (fun r3 M2 h => ?_)
  exact g_iret C hr hQ dX8_done_21 h
def B_NB_deal_i (p1 : Int32) (post : Int32 → Mem → Prop) (R18 : Mem → Prop) (M : Mem)  : Prop :=
  (((p1 = (-1 : Int32)) → (R18 M)) ∧ ((¬ p1 = (-1 : Int32)) → P_Plan_has M 4 p1 (fun (r2 : Int32) (M1 : Mem) => (((¬ r2 = 0) → (R18 M1)) ∧ ((r2 = 0) → post (-1 : Int32) M1)))))
def B_NB_deal_18 (p1 : Int32) (post : Int32 → Mem → Prop) (R18 : Mem → Prop) (M : Mem)  : Prop :=
  P_Dealing_refresh M 18 (fun (M3 : Mem) => (((¬ p1 = (-1 : Int32)) → P_Dealing_ownerFor M3 p1 (fun (r5 : Int32) (M4 : Mem) => post r5 M4)) ∧ ((p1 = (-1 : Int32)) → P_NB_withinHorizon M3 (M3 124 9) (fun (r7 : Int32) (M6 : Mem) => post r7 M6))))
def P_NB_deal (M : Mem) (p1 : Int32) (post : Int32 → Mem → Prop) : Prop :=
  ∀ (R18 : Mem → Prop), (∀ (M : Mem) , B_NB_deal_18 p1 post R18 M  → R18 M ) → B_NB_deal_i p1 post R18 M
set_option maxHeartbeats 4000000 in
set_option maxRecDepth 100000 in
theorem c_NB_deal {Z : ZT} (hZ : IsX Z) (l : Launch) (p1 : Int32) (M : Mem) (post : Int32 → Mem → Prop) (h : P_NB_deal M p1 post) : CtI Z l yX8_deal cX8_deal 2 (some .int) 6 137 [.ref (zb Z + 0), .int p1] M post := by
  refine ctI (own := RX8) rfl (by decide) (Nat.le_of_ble_eq_true rfl) (fun X C E hr hQ => ?_)
  have s18 : ∀ (M : Mem) , B_NB_deal_18 p1 post (fun (M : Mem)  => GS Z X 18 [(0, .ref (zb Z + 0)), (1, .int p1)] [] M) M  → GS Z X 18 [(0, .ref (zb Z + 0)), (1, .int p1)] [] M := by
    intro M  h
    unfold B_NB_deal_18 at h
    refine g_aload_n (n := 19) (i := 0) C dX8_deal_18 rfl 0 rfl rfl ?_
    refine gf_X8_60 (n := 22) C E (ox_0 hZ) dX8_deal_19 rfl ?_
    refine g_aload_n (n := 23) (i := 0) C dX8_deal_22 rfl 0 rfl rfl ?_
    refine gf_X8_31 (n := 26) C E (ox_0 hZ) dX8_deal_23 rfl ?_
    refine g_callNv (n := 29) (kd := 1) C E (c_Dealing_refresh hZ _ 18 (by unfold Hh; decide) M _ h) yi_X1_refresh wn_653 rfl (ox_124 hZ) (by decide) (Nat.le_of_ble_eq_true rfl) dX8_deal_26 rfl rfl (fun M3 h => ?_)
    refine g_iload_n (n := 30) (i := 1) C dX8_deal_29 rfl 1 rfl rfl ?_
    refine g_iconst (n := 31) (-1 : Int32) C dX8_deal_30 (by decide) rfl ?_
    refine g_icmp_ne (n := 34) (tgt := 47) C dX8_deal_31 (by decide) rfl (fun c => ?_) (fun c => ?_)
    · replace h := h.1 c
      refine g_aload_n (n := 48) (i := 0) C dX8_deal_47 rfl 0 rfl rfl ?_
      refine gf_X8_60 (n := 51) C E (ox_0 hZ) dX8_deal_48 rfl ?_
      refine g_iload_n (n := 52) (i := 1) C dX8_deal_51 rfl 1 rfl rfl ?_
      refine g_callNi (n := 55) (kd := 1) C E (c_Dealing_ownerFor hZ _ p1 M3 _ h) yi_X1_ownerFor wn_692 rfl (ox_124 hZ) (by decide) (Nat.le_of_ble_eq_true rfl) dX8_deal_52 rfl rfl (fun r5 M4 h => ?_)
      exact g_iret C hr hQ dX8_deal_55 h
    · replace h := h.2 c
      refine g_aload_n (n := 35) (i := 0) C dX8_deal_34 rfl 0 rfl rfl ?_
      refine gf_X8_60 (n := 38) C E (ox_0 hZ) dX8_deal_35 rfl ?_
      refine gf_X8_214 (n := 41) C E (ox_124 hZ) dX8_deal_38 rfl ?_
      refine g_callSi (n := 44) C E (c_NB_withinHorizon hZ _ (M3 124 9) M3 _ h) ys_X8_withinHorizon wd_628 (by decide) (Nat.le_of_ble_eq_true rfl) dX8_deal_41 rfl rfl (fun r7 M6 h => ?_)
      refine g_goto (tgt := 55) C dX8_deal_44 (by decide) ?_
      exact g_iret C hr hQ dX8_deal_55 h
  replace h := h (fun (M : Mem)  => GS Z X 18 [(0, .ref (zb Z + 0)), (1, .int p1)] [] M) s18
  unfold B_NB_deal_i at h
  show GS Z X 0 [(0, .ref (zb Z + 0)), (1, .int p1)] [] M
  refine g_iload_n (n := 1) (i := 1) C dX8_deal_0 rfl 1 rfl rfl ?_
  refine g_iconst (n := 2) (-1 : Int32) C dX8_deal_1 (by decide) rfl ?_
  refine g_icmp_eq (n := 5) (tgt := 18) C dX8_deal_2 (by decide) rfl (fun c => ?_) (fun c => ?_)
  · replace h := h.1 c
    exact g_sub [0, 1] rfl h
  · replace h := h.2 c
    refine g_aload_n (n := 6) (i := 0) C dX8_deal_5 rfl 0 rfl rfl ?_
    refine gf_X8_19 (n := 9) C E (ox_0 hZ) dX8_deal_6 rfl ?_
    refine g_iload_n (n := 10) (i := 1) C dX8_deal_9 rfl 1 rfl rfl ?_
    refine g_callNi (n := 13) (kd := 4) C E (c_Plan_has hZ _ 4 (by unfold Hp; decide) p1 M _ h) yi_X4_has wn_500 rfl (ox_4 hZ) (by decide) (Nat.le_of_ble_eq_true rfl) dX8_deal_10 rfl rfl (fun r2 M1 h => ?_)
    refine g_if_ne (n := 16) (tgt := 18) C dX8_deal_13 (by decide) rfl (fun c => ?_) (fun c => ?_)
    · replace h := h.1 c
      exact g_sub [0, 1] rfl h
    · replace h := h.2 c
      refine g_iconst (n := 17) (-1 : Int32) C dX8_deal_16 (by decide) rfl ?_
      exact g_iret C hr hQ dX8_deal_17 h
def B_NB_off_i (p1 : Int32) (post : Int32 → Mem → Prop) (R20 : Mem → Int32 → Int32 → Int32 → Prop) (M : Mem)  : Prop :=
  (((p1 < 0) → post (-1 : Int32) M) ∧ ((¬ p1 < 0) → (((p1 ≤ (1 : Int32)) → ∀ z1 : Int32, z1 = (-4 : Int32) → ∀ z2 : Int32, z2 = (100 : Int32) → ∀ z3 : Int32, z3 = (0 : Int32) → (R20 M z1 z2 z3)) ∧ ((¬ p1 ≤ (1 : Int32)) → post (-1 : Int32) M))))
def B_NB_off_20 (p1 : Int32) (post : Int32 → Mem → Prop) (R20 : Mem → Int32 → Int32 → Int32 → Prop) (M : Mem) (x20_2 : Int32) (x20_3 : Int32) (x20_4 : Int32) : Prop :=
  ((((7 : Int32) ≤ x20_4) → (((¬ x20_2 = (-4 : Int32)) → (((¬ p1 = 0) → post x20_3 M) ∧ ((p1 = 0) → post x20_2 M))) ∧ ((x20_2 = (-4 : Int32)) → post (-4 : Int32) M))) ∧ ((¬ (7 : Int32) ≤ x20_4) → ((((M 4 6) ≤ x20_4) → (((¬ x20_2 = (-4 : Int32)) → (((¬ p1 = 0) → post x20_3 M) ∧ ((p1 = 0) → post x20_2 M))) ∧ ((x20_2 = (-4 : Int32)) → post (-4 : Int32) M))) ∧ ((¬ (M 4 6) ≤ x20_4) → P_House_isBooked M 18 x20_4 (fun (r5 : Int32) (M4 : Mem) => (((r5 = 0) → ∀ z6 : Int32, z6 = x20_4 + (1 : Int32) → (R20 M4 x20_2 x20_3 z6)) ∧ ((¬ r5 = 0) → P_House_copyFrom M4 26 18 (fun (M7 : Mem) => P_House_callOff M7 26 x20_4 (fun (M8 : Mem) => P_Outlook_look M8 34 26 (fun (M9 : Mem) => (((x20_3 ≤ (M9 34 8)) → ∀ z10 : Int32, z10 = x20_4 + (1 : Int32) → (R20 M9 x20_2 x20_3 z10)) ∧ ((¬ x20_3 ≤ (M9 34 8)) → ∀ z11 : Int32, z11 = x20_4 → ∀ z12 : Int32, z12 = (M9 34 8) → ∀ z13 : Int32, z13 = x20_4 + (1 : Int32) → (R20 M9 z11 z12 z13)))))))))))))
def P_NB_off (M : Mem) (p1 : Int32) (post : Int32 → Mem → Prop) : Prop :=
  ∀ (R20 : Mem → Int32 → Int32 → Int32 → Prop), (∀ (M : Mem) (x20_2 : Int32) (x20_3 : Int32) (x20_4 : Int32), B_NB_off_20 p1 post R20 M x20_2 x20_3 x20_4 → R20 M x20_2 x20_3 x20_4) → B_NB_off_i p1 post R20 M
set_option maxHeartbeats 4000000 in
set_option maxRecDepth 100000 in
theorem c_NB_off {Z : ZT} (hZ : IsX Z) (l : Launch) (p1 : Int32) (M : Mem) (post : Int32 → Mem → Prop) (h : P_NB_off M p1 post) : CtI Z l yX8_off cX8_off 5 (some .int) 5 114 [.ref (zb Z + 0), .int p1] M post := by
  refine ctI (own := RX8) rfl (by decide) (Nat.le_of_ble_eq_true rfl) (fun X C E hr hQ => ?_)
  have s20 : ∀ (M : Mem) (x20_2 : Int32) (x20_3 : Int32) (x20_4 : Int32), B_NB_off_20 p1 post (fun (M : Mem) (x20_2 : Int32) (x20_3 : Int32) (x20_4 : Int32) => GS Z X 20 [(0, .ref (zb Z + 0)), (1, .int p1), (2, .int x20_2), (3, .int x20_3), (4, .int x20_4)] [] M) M x20_2 x20_3 x20_4 → GS Z X 20 [(0, .ref (zb Z + 0)), (1, .int p1), (2, .int x20_2), (3, .int x20_3), (4, .int x20_4)] [] M := by
    intro M x20_2 x20_3 x20_4 h
    unfold B_NB_off_20 at h
    refine g_iload (n := 22) C dX8_off_20 4 rfl rfl ?_
    refine g_bipush (n := 24) (7 : Int32) C dX8_off_22 (by decide) rfl ?_
    refine g_icmp_ge (n := 27) (tgt := 110) C dX8_off_24 (by decide) rfl (fun c => ?_) (fun c => ?_)
    · replace h := h.1 c
      refine g_iload_n (n := 111) (i := 2) C dX8_off_110 rfl 2 rfl rfl ?_
      refine g_bipush (n := 113) (-4 : Int32) C dX8_off_111 (by decide) rfl ?_
      refine g_icmp_ne (n := 116) (tgt := 119) C dX8_off_113 (by decide) rfl (fun c => ?_) (fun c => ?_)
      · replace h := h.1 c
        refine g_iload_n (n := 120) (i := 1) C dX8_off_119 rfl 1 rfl rfl ?_
        refine g_if_ne (n := 123) (tgt := 127) C dX8_off_120 (by decide) rfl (fun c => ?_) (fun c => ?_)
        · replace h := h.1 c
          refine g_iload_n (n := 128) (i := 3) C dX8_off_127 rfl 3 rfl rfl ?_
          exact g_iret C hr hQ dX8_off_128 h
        · replace h := h.2 c
          refine g_iload_n (n := 124) (i := 2) C dX8_off_123 rfl 2 rfl rfl ?_
          refine g_goto (tgt := 128) C dX8_off_124 (by decide) ?_
          exact g_iret C hr hQ dX8_off_128 h
      · replace h := h.2 c
        refine g_bipush (n := 118) (-4 : Int32) C dX8_off_116 (by decide) rfl ?_
        exact g_iret C hr hQ dX8_off_118 h
    · replace h := h.2 c
      refine g_iload (n := 29) C dX8_off_27 4 rfl rfl ?_
      refine g_aload_n (n := 30) (i := 0) C dX8_off_29 rfl 0 rfl rfl ?_
      refine gf_X8_19 (n := 33) C E (ox_0 hZ) dX8_off_30 rfl ?_
      refine gf_X8_108 (n := 36) C E (ox_4 hZ) dX8_off_33 rfl ?_
      refine g_icmp_ge (n := 39) (tgt := 110) C dX8_off_36 (by decide) rfl (fun c => ?_) (fun c => ?_)
      · replace h := h.1 c
        refine g_iload_n (n := 111) (i := 2) C dX8_off_110 rfl 2 rfl rfl ?_
        refine g_bipush (n := 113) (-4 : Int32) C dX8_off_111 (by decide) rfl ?_
        refine g_icmp_ne (n := 116) (tgt := 119) C dX8_off_113 (by decide) rfl (fun c => ?_) (fun c => ?_)
        · replace h := h.1 c
          refine g_iload_n (n := 120) (i := 1) C dX8_off_119 rfl 1 rfl rfl ?_
          refine g_if_ne (n := 123) (tgt := 127) C dX8_off_120 (by decide) rfl (fun c => ?_) (fun c => ?_)
          · replace h := h.1 c
            refine g_iload_n (n := 128) (i := 3) C dX8_off_127 rfl 3 rfl rfl ?_
            exact g_iret C hr hQ dX8_off_128 h
          · replace h := h.2 c
            refine g_iload_n (n := 124) (i := 2) C dX8_off_123 rfl 2 rfl rfl ?_
            refine g_goto (tgt := 128) C dX8_off_124 (by decide) ?_
            exact g_iret C hr hQ dX8_off_128 h
        · replace h := h.2 c
          refine g_bipush (n := 118) (-4 : Int32) C dX8_off_116 (by decide) rfl ?_
          exact g_iret C hr hQ dX8_off_118 h
      · replace h := h.2 c
        refine g_aload_n (n := 40) (i := 0) C dX8_off_39 rfl 0 rfl rfl ?_
        refine gf_X8_31 (n := 43) C E (ox_0 hZ) dX8_off_40 rfl ?_
        refine g_iload (n := 45) C dX8_off_43 4 rfl rfl ?_
        refine g_callNi (n := 48) (kd := 2) C E (c_House_isBooked hZ _ 18 (by unfold Hh; decide) x20_4 M _ h) yi_X2_isBooked wn_554 rfl (ox_18 hZ) (by decide) (Nat.le_of_ble_eq_true rfl) dX8_off_45 rfl rfl (fun r5 M4 h => ?_)
        refine g_if_eq (n := 51) (tgt := 104) C dX8_off_48 (by decide) rfl (fun c => ?_) (fun c => ?_)
        · replace h := h.1 c
          refine g_iinc (n := 107) (v := (1 : Int32)) C dX8_off_104 4 rfl (by decide) (Nat.le_of_ble_eq_true rfl) rfl rfl (fun z6 ez6 => ?_)
          replace h := h z6 ez6
          refine g_goto (tgt := 20) C dX8_off_107 (by decide) ?_
          exact g_sub [1, 2, 3, 4, 0] rfl h
        · replace h := h.2 c
          refine g_aload_n (n := 52) (i := 0) C dX8_off_51 rfl 0 rfl rfl ?_
          refine gf_X8_35 (n := 55) C E (ox_0 hZ) dX8_off_52 rfl ?_
          refine g_aload_n (n := 56) (i := 0) C dX8_off_55 rfl 0 rfl rfl ?_
          refine gf_X8_31 (n := 59) C E (ox_0 hZ) dX8_off_56 rfl ?_
          refine g_callNv (n := 62) (kd := 2) C E (c_House_copyFrom hZ _ 26 (by unfold Hh; decide) 18 (by unfold Hh; decide) M4 _ h) yi_X2_copyFrom wn_643 rfl (ox_26 hZ) (by decide) (Nat.le_of_ble_eq_true rfl) dX8_off_59 rfl rfl (fun M7 h => ?_)
          refine g_aload_n (n := 63) (i := 0) C dX8_off_62 rfl 0 rfl rfl ?_
          refine gf_X8_35 (n := 66) C E (ox_0 hZ) dX8_off_63 rfl ?_
          refine g_iload (n := 68) C dX8_off_66 4 rfl rfl ?_
          refine g_callNv (n := 71) (kd := 2) C E (c_House_callOff hZ _ 26 (by unfold Hh; decide) x20_4 M7 _ h) yi_X2_callOff wn_567 rfl (ox_26 hZ) (by decide) (Nat.le_of_ble_eq_true rfl) dX8_off_68 rfl rfl (fun M8 h => ?_)
          refine g_aload_n (n := 72) (i := 0) C dX8_off_71 rfl 0 rfl rfl ?_
          refine gf_X8_41 (n := 75) C E (ox_0 hZ) dX8_off_72 rfl ?_
          refine g_aload_n (n := 76) (i := 0) C dX8_off_75 rfl 0 rfl rfl ?_
          refine gf_X8_35 (n := 79) C E (ox_0 hZ) dX8_off_76 rfl ?_
          refine g_callNv (n := 82) (kd := 3) C E (c_Outlook_look hZ _ 34 (by unfold Ho; decide) 26 (by unfold Hh; decide) M8 _ h) yi_X3_look wn_595 rfl (ox_34 hZ) (by decide) (Nat.le_of_ble_eq_true rfl) dX8_off_79 rfl rfl (fun M9 h => ?_)
          refine g_aload_n (n := 83) (i := 0) C dX8_off_82 rfl 0 rfl rfl ?_
          refine gf_X8_41 (n := 86) C E (ox_0 hZ) dX8_off_83 rfl ?_
          refine gf_X8_208 (n := 89) C E (ox_34 hZ) dX8_off_86 rfl ?_
          refine g_iload_n (n := 90) (i := 3) C dX8_off_89 rfl 3 rfl rfl ?_
          refine g_icmp_ge (n := 93) (tgt := 104) C dX8_off_90 (by decide) rfl (fun c => ?_) (fun c => ?_)
          · replace h := h.1 c
            refine g_iinc (n := 107) (v := (1 : Int32)) C dX8_off_104 4 rfl (by decide) (Nat.le_of_ble_eq_true rfl) rfl rfl (fun z10 ez10 => ?_)
            replace h := h z10 ez10
            refine g_goto (tgt := 20) C dX8_off_107 (by decide) ?_
            exact g_sub [1, 2, 3, 4, 0] rfl h
          · replace h := h.2 c
            refine g_iload (n := 95) C dX8_off_93 4 rfl rfl ?_
            refine g_istore_n (n := 96) (i := 2) C dX8_off_95 rfl (Nat.le_of_ble_eq_true rfl) rfl rfl (fun z11 ez11 => ?_)
            replace h := h z11 ez11
            refine g_aload_n (n := 97) (i := 0) C dX8_off_96 rfl 1 rfl rfl ?_
            refine gf_X8_41 (n := 100) C E (ox_0 hZ) dX8_off_97 rfl ?_
            refine gf_X8_208 (n := 103) C E (ox_34 hZ) dX8_off_100 rfl ?_
            refine g_istore_n (n := 104) (i := 3) C dX8_off_103 rfl (Nat.le_of_ble_eq_true rfl) rfl rfl (fun z12 ez12 => ?_)
            replace h := h z12 ez12
            refine g_iinc (n := 107) (v := (1 : Int32)) C dX8_off_104 4 rfl (by decide) (Nat.le_of_ble_eq_true rfl) rfl rfl (fun z13 ez13 => ?_)
            replace h := h z13 ez13
            refine g_goto (tgt := 20) C dX8_off_107 (by decide) ?_
            exact g_sub [3, 4, 2, 1, 0] rfl h
  replace h := h (fun (M : Mem) (x20_2 : Int32) (x20_3 : Int32) (x20_4 : Int32) => GS Z X 20 [(0, .ref (zb Z + 0)), (1, .int p1), (2, .int x20_2), (3, .int x20_3), (4, .int x20_4)] [] M) s20
  unfold B_NB_off_i at h
  show GS Z X 0 [(0, .ref (zb Z + 0)), (1, .int p1)] [] M
  refine g_iload_n (n := 1) (i := 1) C dX8_off_0 rfl 1 rfl rfl ?_
  refine g_if_lt (n := 4) (tgt := 9) C dX8_off_1 (by decide) rfl (fun c => ?_) (fun c => ?_)
  · replace h := h.1 c
    refine g_iconst (n := 10) (-1 : Int32) C dX8_off_9 (by decide) rfl ?_
    exact g_iret C hr hQ dX8_off_10 h
  · replace h := h.2 c
    refine g_iload_n (n := 5) (i := 1) C dX8_off_4 rfl 1 rfl rfl ?_
    refine g_iconst (n := 6) (1 : Int32) C dX8_off_5 (by decide) rfl ?_
    refine g_icmp_le (n := 9) (tgt := 11) C dX8_off_6 (by decide) rfl (fun c => ?_) (fun c => ?_)
    · replace h := h.1 c
      refine g_bipush (n := 13) (-4 : Int32) C dX8_off_11 (by decide) rfl ?_
      refine g_istore_n (n := 14) (i := 2) C dX8_off_13 rfl (Nat.le_of_ble_eq_true rfl) rfl rfl (fun z1 ez1 => ?_)
      replace h := h z1 ez1
      refine g_bipush (n := 16) (100 : Int32) C dX8_off_14 (by decide) rfl ?_
      refine g_istore_n (n := 17) (i := 3) C dX8_off_16 rfl (Nat.le_of_ble_eq_true rfl) rfl rfl (fun z2 ez2 => ?_)
      replace h := h z2 ez2
      refine g_iconst (n := 18) (0 : Int32) C dX8_off_17 (by decide) rfl ?_
      refine g_istore (n := 20) (i := 4) C dX8_off_18 (Nat.le_of_ble_eq_true rfl) rfl rfl (fun z3 ez3 => ?_)
      replace h := h z3 ez3
      exact g_sub [3, 4, 2, 1, 0] rfl h
    · replace h := h.2 c
      refine g_iconst (n := 10) (-1 : Int32) C dX8_off_9 (by decide) rfl ?_
      exact g_iret C hr hQ dX8_off_10 h
def B_NB_see_i (p1 : Int32) (p2 : Int32) (post : Int32 → Mem → Prop)  (M : Mem)  : Prop :=
  P_Plan_has M 4 p1 (fun (r2 : Int32) (M1 : Mem) => (((r2 = 0) → post (-1 : Int32) M1) ∧ ((¬ r2 = 0) → (((p2 < 0) → post (-1 : Int32) M1) ∧ ((¬ p2 < 0) → (((p2 ≤ (200 : Int32)) → P_Sightings_add M1 p1 p2 (fun (r4 : Int32) (M3 : Mem) => (((r4 = 0) → post (-3 : Int32) M3) ∧ ((¬ r4 = 0) → post (M3 142 6) M3)))) ∧ ((¬ p2 ≤ (200 : Int32)) → post (-1 : Int32) M1)))))))
def P_NB_see (M : Mem) (p1 : Int32) (p2 : Int32) (post : Int32 → Mem → Prop) : Prop := B_NB_see_i p1 p2 post M
set_option maxHeartbeats 4000000 in
set_option maxRecDepth 100000 in
theorem c_NB_see {Z : ZT} (hZ : IsX Z) (l : Launch) (p1 : Int32) (p2 : Int32) (M : Mem) (post : Int32 → Mem → Prop) (h : P_NB_see M p1 p2 post) : CtI Z l yX8_see cX8_see 3 (some .int) 1 22 [.ref (zb Z + 0), .int p1, .int p2] M post := by
  refine ctI (own := RX8) rfl (by decide) (Nat.le_of_ble_eq_true rfl) (fun X C E hr hQ => ?_)
  unfold P_NB_see at h
  unfold B_NB_see_i at h
  show GS Z X 0 [(0, .ref (zb Z + 0)), (1, .int p1), (2, .int p2)] [] M
  refine g_aload_n (n := 1) (i := 0) C dX8_see_0 rfl 0 rfl rfl ?_
  refine gf_X8_19 (n := 4) C E (ox_0 hZ) dX8_see_1 rfl ?_
  refine g_iload_n (n := 5) (i := 1) C dX8_see_4 rfl 1 rfl rfl ?_
  refine g_callNi (n := 8) (kd := 4) C E (c_Plan_has hZ _ 4 (by unfold Hp; decide) p1 M _ h) yi_X4_has wn_500 rfl (ox_4 hZ) (by decide) (Nat.le_of_ble_eq_true rfl) dX8_see_5 rfl rfl (fun r2 M1 h => ?_)
  refine g_if_eq (n := 11) (tgt := 22) C dX8_see_8 (by decide) rfl (fun c => ?_) (fun c => ?_)
  · replace h := h.1 c
    refine g_iconst (n := 23) (-1 : Int32) C dX8_see_22 (by decide) rfl ?_
    exact g_iret C hr hQ dX8_see_23 h
  · replace h := h.2 c
    refine g_iload_n (n := 12) (i := 2) C dX8_see_11 rfl 2 rfl rfl ?_
    refine g_if_lt (n := 15) (tgt := 22) C dX8_see_12 (by decide) rfl (fun c => ?_) (fun c => ?_)
    · replace h := h.1 c
      refine g_iconst (n := 23) (-1 : Int32) C dX8_see_22 (by decide) rfl ?_
      exact g_iret C hr hQ dX8_see_23 h
    · replace h := h.2 c
      refine g_iload_n (n := 16) (i := 2) C dX8_see_15 rfl 2 rfl rfl ?_
      refine g_sipush (n := 19) (200 : Int32) C dX8_see_16 (by decide) rfl ?_
      refine g_icmp_le (n := 22) (tgt := 24) C dX8_see_19 (by decide) rfl (fun c => ?_) (fun c => ?_)
      · replace h := h.1 c
        refine g_aload_n (n := 25) (i := 0) C dX8_see_24 rfl 0 rfl rfl ?_
        refine gf_X8_67 (n := 28) C E (ox_0 hZ) dX8_see_25 rfl ?_
        refine g_iload_n (n := 29) (i := 1) C dX8_see_28 rfl 1 rfl rfl ?_
        refine g_iload_n (n := 30) (i := 2) C dX8_see_29 rfl 2 rfl rfl ?_
        refine g_callNi (n := 33) (kd := 7) C E (c_Sightings_add hZ _ p1 p2 M1 _ h) yi_X7_add wn_704 rfl (ox_142 hZ) (by decide) (Nat.le_of_ble_eq_true rfl) dX8_see_30 rfl rfl (fun r4 M3 h => ?_)
        refine g_if_eq (n := 36) (tgt := 46) C dX8_see_33 (by decide) rfl (fun c => ?_) (fun c => ?_)
        · replace h := h.1 c
          refine g_bipush (n := 48) (-3 : Int32) C dX8_see_46 (by decide) rfl ?_
          exact g_iret C hr hQ dX8_see_48 h
        · replace h := h.2 c
          refine g_aload_n (n := 37) (i := 0) C dX8_see_36 rfl 0 rfl rfl ?_
          refine gf_X8_67 (n := 40) C E (ox_0 hZ) dX8_see_37 rfl ?_
          refine gf_X8_224 (n := 43) C E (ox_142 hZ) dX8_see_40 rfl ?_
          refine g_goto (tgt := 48) C dX8_see_43 (by decide) ?_
          exact g_iret C hr hQ dX8_see_48 h
      · replace h := h.2 c
        refine g_iconst (n := 23) (-1 : Int32) C dX8_see_22 (by decide) rfl ?_
        exact g_iret C hr hQ dX8_see_23 h
def B_NB_forget_i  (post : Int32 → Mem → Prop)  (M : Mem)  : Prop :=
  ∀ z1 : Int32, z1 = (M 142 6) → P_Sightings_clear M (fun (M2 : Mem) => post z1 M2)
def P_NB_forget (M : Mem)  (post : Int32 → Mem → Prop) : Prop := B_NB_forget_i  post M
set_option maxHeartbeats 4000000 in
set_option maxRecDepth 100000 in
theorem c_NB_forget {Z : ZT} (hZ : IsX Z) (l : Launch)  (M : Mem) (post : Int32 → Mem → Prop) (h : P_NB_forget M  post) : CtI Z l yX8_forget cX8_forget 2 (some .int) 1 20 [.ref (zb Z + 0)] M post := by
  refine ctI (own := RX8) rfl (by decide) (Nat.le_of_ble_eq_true rfl) (fun X C E hr hQ => ?_)
  unfold P_NB_forget at h
  unfold B_NB_forget_i at h
  show GS Z X 0 [(0, .ref (zb Z + 0))] [] M
  refine g_aload_n (n := 1) (i := 0) C dX8_forget_0 rfl 0 rfl rfl ?_
  refine gf_X8_67 (n := 4) C E (ox_0 hZ) dX8_forget_1 rfl ?_
  refine gf_X8_224 (n := 7) C E (ox_142 hZ) dX8_forget_4 rfl ?_
  refine g_istore_n (n := 8) (i := 1) C dX8_forget_7 rfl (Nat.le_of_ble_eq_true rfl) rfl rfl (fun z1 ez1 => ?_)
  replace h := h z1 ez1
  refine g_aload_n (n := 9) (i := 0) C dX8_forget_8 rfl 1 rfl rfl ?_
  refine gf_X8_67 (n := 12) C E (ox_0 hZ) dX8_forget_9 rfl ?_
  refine g_callNv (n := 15) (kd := 7) C E (c_Sightings_clear hZ _  M _ h) yi_X7_clear wn_433 rfl (ox_142 hZ) (by decide) (Nat.le_of_ble_eq_true rfl) dX8_forget_12 rfl rfl (fun M2 h => ?_)
  refine g_iload_n (n := 16) (i := 1) C dX8_forget_15 rfl 0 rfl rfl ?_
  exact g_iret C hr hQ dX8_forget_16 h
def B_NB_orders_i (p1 : Int32) (post : Int32 → Mem → Prop) (R18 : Mem → Prop) (M : Mem)  : Prop :=
  (((p1 = (-1 : Int32)) → (R18 M)) ∧ ((¬ p1 = (-1 : Int32)) → P_Plan_has M 4 p1 (fun (r2 : Int32) (M1 : Mem) => (((¬ r2 = 0) → (R18 M1)) ∧ ((r2 = 0) → post (-1 : Int32) M1)))))
def B_NB_orders_18 (p1 : Int32) (post : Int32 → Mem → Prop) (R18 : Mem → Prop) (M : Mem)  : Prop :=
  P_Sightings_refresh M (fun (M3 : Mem) => (((¬ p1 = (-1 : Int32)) → P_Sightings_firstOrderAt M3 p1 (fun (r5 : Int32) (M4 : Mem) => post r5 M4)) ∧ ((p1 = (-1 : Int32)) → post (M3 142 7) M3)))
def P_NB_orders (M : Mem) (p1 : Int32) (post : Int32 → Mem → Prop) : Prop :=
  ∀ (R18 : Mem → Prop), (∀ (M : Mem) , B_NB_orders_18 p1 post R18 M  → R18 M ) → B_NB_orders_i p1 post R18 M
set_option maxHeartbeats 4000000 in
set_option maxRecDepth 100000 in
theorem c_NB_orders {Z : ZT} (hZ : IsX Z) (l : Launch) (p1 : Int32) (M : Mem) (post : Int32 → Mem → Prop) (h : P_NB_orders M p1 post) : CtI Z l yX8_orders cX8_orders 2 (some .int) 4 92 [.ref (zb Z + 0), .int p1] M post := by
  refine ctI (own := RX8) rfl (by decide) (Nat.le_of_ble_eq_true rfl) (fun X C E hr hQ => ?_)
  have s18 : ∀ (M : Mem) , B_NB_orders_18 p1 post (fun (M : Mem)  => GS Z X 18 [(0, .ref (zb Z + 0)), (1, .int p1)] [] M) M  → GS Z X 18 [(0, .ref (zb Z + 0)), (1, .int p1)] [] M := by
    intro M  h
    unfold B_NB_orders_18 at h
    refine g_aload_n (n := 19) (i := 0) C dX8_orders_18 rfl 0 rfl rfl ?_
    refine gf_X8_67 (n := 22) C E (ox_0 hZ) dX8_orders_19 rfl ?_
    refine g_callNv (n := 25) (kd := 7) C E (c_Sightings_refresh hZ _  M _ h) yi_X7_refresh wn_716 rfl (ox_142 hZ) (by decide) (Nat.le_of_ble_eq_true rfl) dX8_orders_22 rfl rfl (fun M3 h => ?_)
    refine g_iload_n (n := 26) (i := 1) C dX8_orders_25 rfl 1 rfl rfl ?_
    refine g_iconst (n := 27) (-1 : Int32) C dX8_orders_26 (by decide) rfl ?_
    refine g_icmp_ne (n := 30) (tgt := 40) C dX8_orders_27 (by decide) rfl (fun c => ?_) (fun c => ?_)
    · replace h := h.1 c
      refine g_aload_n (n := 41) (i := 0) C dX8_orders_40 rfl 0 rfl rfl ?_
      refine gf_X8_67 (n := 44) C E (ox_0 hZ) dX8_orders_41 rfl ?_
      refine g_iload_n (n := 45) (i := 1) C dX8_orders_44 rfl 1 rfl rfl ?_
      refine g_callNi (n := 48) (kd := 7) C E (c_Sightings_firstOrderAt hZ _ p1 M3 _ h) yi_X7_firstOrderAt wn_747 rfl (ox_142 hZ) (by decide) (Nat.le_of_ble_eq_true rfl) dX8_orders_45 rfl rfl (fun r5 M4 h => ?_)
      exact g_iret C hr hQ dX8_orders_48 h
    · replace h := h.2 c
      refine g_aload_n (n := 31) (i := 0) C dX8_orders_30 rfl 0 rfl rfl ?_
      refine gf_X8_67 (n := 34) C E (ox_0 hZ) dX8_orders_31 rfl ?_
      refine gf_X8_228 (n := 37) C E (ox_142 hZ) dX8_orders_34 rfl ?_
      refine g_goto (tgt := 48) C dX8_orders_37 (by decide) ?_
      exact g_iret C hr hQ dX8_orders_48 h
  replace h := h (fun (M : Mem)  => GS Z X 18 [(0, .ref (zb Z + 0)), (1, .int p1)] [] M) s18
  unfold B_NB_orders_i at h
  show GS Z X 0 [(0, .ref (zb Z + 0)), (1, .int p1)] [] M
  refine g_iload_n (n := 1) (i := 1) C dX8_orders_0 rfl 1 rfl rfl ?_
  refine g_iconst (n := 2) (-1 : Int32) C dX8_orders_1 (by decide) rfl ?_
  refine g_icmp_eq (n := 5) (tgt := 18) C dX8_orders_2 (by decide) rfl (fun c => ?_) (fun c => ?_)
  · replace h := h.1 c
    exact g_sub [0, 1] rfl h
  · replace h := h.2 c
    refine g_aload_n (n := 6) (i := 0) C dX8_orders_5 rfl 0 rfl rfl ?_
    refine gf_X8_19 (n := 9) C E (ox_0 hZ) dX8_orders_6 rfl ?_
    refine g_iload_n (n := 10) (i := 1) C dX8_orders_9 rfl 1 rfl rfl ?_
    refine g_callNi (n := 13) (kd := 4) C E (c_Plan_has hZ _ 4 (by unfold Hp; decide) p1 M _ h) yi_X4_has wn_500 rfl (ox_4 hZ) (by decide) (Nat.le_of_ble_eq_true rfl) dX8_orders_10 rfl rfl (fun r2 M1 h => ?_)
    refine g_if_ne (n := 16) (tgt := 18) C dX8_orders_13 (by decide) rfl (fun c => ?_) (fun c => ?_)
    · replace h := h.1 c
      exact g_sub [0, 1] rfl h
    · replace h := h.2 c
      refine g_iconst (n := 17) (-1 : Int32) C dX8_orders_16 (by decide) rfl ?_
      exact g_iret C hr hQ dX8_orders_17 h
def B_NB_absent_i (p1 : Int32) (p2 : Int32) (p3 : Int32) (post : Int32 → Mem → Prop)  (M : Mem)  : Prop :=
  P_Plan_has M 4 p1 (fun (r2 : Int32) (M1 : Mem) => (((r2 = 0) → post (-1 : Int32) M1) ∧ ((¬ r2 = 0) → (((p2 < 0) → post (-1 : Int32) M1) ∧ ((¬ p2 < 0) → ((((10 : Int32) < p2) → post (-1 : Int32) M1) ∧ ((¬ (10 : Int32) < p2) → (((p3 < 0) → post (-1 : Int32) M1) ∧ ((¬ p3 < 0) → (((p3 ≤ (1 : Int32)) → P_Chance_weigh M1 18 p1 p2 (fun (M3 : Mem) => (((¬ p3 = 0) → post (M3 148 6) M3) ∧ ((p3 = 0) → post (M3 148 5) M3)))) ∧ ((¬ p3 ≤ (1 : Int32)) → post (-1 : Int32) M1)))))))))))
def P_NB_absent (M : Mem) (p1 : Int32) (p2 : Int32) (p3 : Int32) (post : Int32 → Mem → Prop) : Prop := B_NB_absent_i p1 p2 p3 post M
set_option maxHeartbeats 4000000 in
set_option maxRecDepth 100000 in
theorem c_NB_absent {Z : ZT} (hZ : IsX Z) (l : Launch) (p1 : Int32) (p2 : Int32) (p3 : Int32) (M : Mem) (post : Int32 → Mem → Prop) (h : P_NB_absent M p1 p2 p3 post) : CtI Z l yX8_absent cX8_absent 4 (some .int) 7 162 [.ref (zb Z + 0), .int p1, .int p2, .int p3] M post := by
  refine ctI (own := RX8) rfl (by decide) (Nat.le_of_ble_eq_true rfl) (fun X C E hr hQ => ?_)
  unfold P_NB_absent at h
  unfold B_NB_absent_i at h
  show GS Z X 0 [(0, .ref (zb Z + 0)), (1, .int p1), (2, .int p2), (3, .int p3)] [] M
  refine g_aload_n (n := 1) (i := 0) C dX8_absent_0 rfl 0 rfl rfl ?_
  refine gf_X8_19 (n := 4) C E (ox_0 hZ) dX8_absent_1 rfl ?_
  refine g_iload_n (n := 5) (i := 1) C dX8_absent_4 rfl 1 rfl rfl ?_
  refine g_callNi (n := 8) (kd := 4) C E (c_Plan_has hZ _ 4 (by unfold Hp; decide) p1 M _ h) yi_X4_has wn_500 rfl (ox_4 hZ) (by decide) (Nat.le_of_ble_eq_true rfl) dX8_absent_5 rfl rfl (fun r2 M1 h => ?_)
  refine g_if_eq (n := 11) (tgt := 30) C dX8_absent_8 (by decide) rfl (fun c => ?_) (fun c => ?_)
  · replace h := h.1 c
    refine g_iconst (n := 31) (-1 : Int32) C dX8_absent_30 (by decide) rfl ?_
    exact g_iret C hr hQ dX8_absent_31 h
  · replace h := h.2 c
    refine g_iload_n (n := 12) (i := 2) C dX8_absent_11 rfl 2 rfl rfl ?_
    refine g_if_lt (n := 15) (tgt := 30) C dX8_absent_12 (by decide) rfl (fun c => ?_) (fun c => ?_)
    · replace h := h.1 c
      refine g_iconst (n := 31) (-1 : Int32) C dX8_absent_30 (by decide) rfl ?_
      exact g_iret C hr hQ dX8_absent_31 h
    · replace h := h.2 c
      refine g_iload_n (n := 16) (i := 2) C dX8_absent_15 rfl 2 rfl rfl ?_
      refine g_bipush (n := 18) (10 : Int32) C dX8_absent_16 (by decide) rfl ?_
      refine g_icmp_gt (n := 21) (tgt := 30) C dX8_absent_18 (by decide) rfl (fun c => ?_) (fun c => ?_)
      · replace h := h.1 c
        refine g_iconst (n := 31) (-1 : Int32) C dX8_absent_30 (by decide) rfl ?_
        exact g_iret C hr hQ dX8_absent_31 h
      · replace h := h.2 c
        refine g_iload_n (n := 22) (i := 3) C dX8_absent_21 rfl 3 rfl rfl ?_
        refine g_if_lt (n := 25) (tgt := 30) C dX8_absent_22 (by decide) rfl (fun c => ?_) (fun c => ?_)
        · replace h := h.1 c
          refine g_iconst (n := 31) (-1 : Int32) C dX8_absent_30 (by decide) rfl ?_
          exact g_iret C hr hQ dX8_absent_31 h
        · replace h := h.2 c
          refine g_iload_n (n := 26) (i := 3) C dX8_absent_25 rfl 3 rfl rfl ?_
          refine g_iconst (n := 27) (1 : Int32) C dX8_absent_26 (by decide) rfl ?_
          refine g_icmp_le (n := 30) (tgt := 32) C dX8_absent_27 (by decide) rfl (fun c => ?_) (fun c => ?_)
          · replace h := h.1 c
            refine g_aload_n (n := 33) (i := 0) C dX8_absent_32 rfl 0 rfl rfl ?_
            refine gf_X8_74 (n := 36) C E (ox_0 hZ) dX8_absent_33 rfl ?_
            refine g_aload_n (n := 37) (i := 0) C dX8_absent_36 rfl 0 rfl rfl ?_
            refine gf_X8_31 (n := 40) C E (ox_0 hZ) dX8_absent_37 rfl ?_
            refine g_iload_n (n := 41) (i := 1) C dX8_absent_40 rfl 1 rfl rfl ?_
            refine g_iload_n (n := 42) (i := 2) C dX8_absent_41 rfl 2 rfl rfl ?_
            refine g_callNv (n := 45) (kd := 0) C E (c_Chance_weigh hZ _ 18 (by unfold Hh; decide) p1 p2 M1 _ h) yi_X0_weigh wn_755 rfl (ox_148 hZ) (by decide) (Nat.le_of_ble_eq_true rfl) dX8_absent_42 rfl rfl (fun M3 h => ?_)
            refine g_iload_n (n := 46) (i := 3) C dX8_absent_45 rfl 3 rfl rfl ?_
            refine g_if_ne (n := 49) (tgt := 59) C dX8_absent_46 (by decide) rfl (fun c => ?_) (fun c => ?_)
            · replace h := h.1 c
              refine g_aload_n (n := 60) (i := 0) C dX8_absent_59 rfl 0 rfl rfl ?_
              refine gf_X8_74 (n := 63) C E (ox_0 hZ) dX8_absent_60 rfl ?_
              refine gf_X8_241 (n := 66) C E (ox_148 hZ) dX8_absent_63 rfl ?_
              exact g_iret C hr hQ dX8_absent_66 h
            · replace h := h.2 c
              refine g_aload_n (n := 50) (i := 0) C dX8_absent_49 rfl 0 rfl rfl ?_
              refine gf_X8_74 (n := 53) C E (ox_0 hZ) dX8_absent_50 rfl ?_
              refine gf_X8_238 (n := 56) C E (ox_148 hZ) dX8_absent_53 rfl ?_
              refine g_goto (tgt := 66) C dX8_absent_56 (by decide) ?_
              exact g_iret C hr hQ dX8_absent_66 h
          · replace h := h.2 c
            refine g_iconst (n := 31) (-1 : Int32) C dX8_absent_30 (by decide) rfl ?_
            exact g_iret C hr hQ dX8_absent_31 h
def B_NB_drawOf_i (p1 : Int32) (p2 : Int32) (post : Int32 → Mem → Prop)  (M : Mem)  : Prop :=
  ∀ z1 : Int64, z1 = ((((7919 : Int64) * p1.toInt64) + ((6151 : Int64) * p2.toInt64)) + (1 : Int64)) → post ((z1 * z1) - (z1 * z1) / (65521 : Int64) * (65521 : Int64)).toInt32 M
def P_NB_drawOf (M : Mem) (p1 : Int32) (p2 : Int32) (post : Int32 → Mem → Prop) : Prop := B_NB_drawOf_i p1 p2 post M
set_option maxHeartbeats 4000000 in
set_option maxRecDepth 100000 in
theorem c_NB_drawOf {Z : ZT} (hZ : IsX Z) (l : Launch) (p1 : Int32) (p2 : Int32) (M : Mem) (post : Int32 → Mem → Prop) (h : P_NB_drawOf M p1 p2 post) : CtI Z l yX8_drawOf cX8_drawOf 4 (some .int) 0 0 [.int p1, .int p2] M post := by
  refine ctI (own := RX8) rfl (by decide) (Nat.le_of_ble_eq_true rfl) (fun X C E hr hQ => ?_)
  unfold P_NB_drawOf at h
  unfold B_NB_drawOf_i at h
  show GS Z X 0 [(0, .int p1), (1, .int p2)] [] M
  refine g_ldc2 (n := 3) (7919 : Int64) C wd_781 dX8_drawOf_0 rfl ?_
  refine g_iload_n (n := 4) (i := 0) C dX8_drawOf_3 rfl 0 rfl rfl ?_
  refine g_i2l (n := 5) C dX8_drawOf_4 rfl ?_
  refine g_lmul (n := 6) C dX8_drawOf_5 rfl ?_
  refine g_ldc2 (n := 9) (6151 : Int64) C wd_782 dX8_drawOf_6 rfl ?_
  refine g_iload_n (n := 10) (i := 1) C dX8_drawOf_9 rfl 1 rfl rfl ?_
  refine g_i2l (n := 11) C dX8_drawOf_10 rfl ?_
  refine g_lmul (n := 12) C dX8_drawOf_11 rfl ?_
  refine g_ladd (n := 13) C dX8_drawOf_12 rfl ?_
  refine g_lconst (n := 14) (1 : Int64) C dX8_drawOf_13 (by decide) rfl ?_
  refine g_ladd (n := 15) C dX8_drawOf_14 rfl ?_
  refine g_lstore_n (n := 16) (i := 2) C dX8_drawOf_15 rfl (Nat.le_of_ble_eq_true rfl) rfl rfl (fun z1 ez1 => ?_)
  replace h := h z1 ez1
  refine g_lload_n (n := 17) (i := 2) C dX8_drawOf_16 rfl 0 rfl rfl ?_
  refine g_lload_n (n := 18) (i := 2) C dX8_drawOf_17 rfl 0 rfl rfl ?_
  refine g_lmul (n := 19) C dX8_drawOf_18 rfl ?_
  refine g_ldc2 (n := 22) (65521 : Int64) C wd_783 dX8_drawOf_19 rfl ?_
  refine g_lrem (n := 23) C dX8_drawOf_22 (by decide) rfl ?_
  refine g_l2i (n := 24) C dX8_drawOf_23 rfl ?_
  exact g_iret C hr hQ dX8_drawOf_24 h
def B_NB_season_i (p1 : Int32) (p2 : Int32) (p3 : Int32) (post : Int32 → Mem → Prop) (R47 : Mem → Int32 → Prop) (M : Mem)  : Prop :=
  (((p1 < 0) → post (-1 : Int32) M) ∧ ((¬ p1 < 0) → ((((9999 : Int32) < p1) → post (-1 : Int32) M) ∧ ((¬ (9999 : Int32) < p1) → (((p2 < (1 : Int32)) → post (-1 : Int32) M) ∧ ((¬ p2 < (1 : Int32)) → ((((60 : Int32) < p2) → post (-1 : Int32) M) ∧ ((¬ (60 : Int32) < p2) → (((p3 < 0) → post (-1 : Int32) M) ∧ ((¬ p3 < 0) → (((p3 ≤ (1 : Int32)) → P_House_copyFrom M 26 18 (fun (M1 : Mem) => ∀ z2 : Int32, z2 = (0 : Int32) → (R47 M1 z2))) ∧ ((¬ p3 ≤ (1 : Int32)) → post (-1 : Int32) M))))))))))))
def B_NB_season_47 (p1 : Int32) (p2 : Int32) (p3 : Int32) (post : Int32 → Mem → Prop) (R47 : Mem → Int32 → Prop) (M : Mem) (x47_4 : Int32) : Prop :=
  (((p2 ≤ x47_4) → (((¬ p3 = 0) → P_House_allCoins M 26 (fun (r4 : Int32) (M3 : Mem) => post r4 M3)) ∧ ((p3 = 0) → P_House_howMany M 26 (2 : Int32) (fun (r6 : Int32) (M5 : Mem) => post r6 M5)))) ∧ ((¬ p2 ≤ x47_4) → P_NB_drawOf M p1 x47_4 (fun (r8 : Int32) (M7 : Mem) => P_House_disturb M7 26 r8 (fun (M9 : Mem) => P_House_oneHour M9 26 (fun (M10 : Mem) => ∀ z11 : Int32, z11 = x47_4 + (1 : Int32) → (R47 M10 z11))))))
def P_NB_season (M : Mem) (p1 : Int32) (p2 : Int32) (p3 : Int32) (post : Int32 → Mem → Prop) : Prop :=
  ∀ (R47 : Mem → Int32 → Prop), (∀ (M : Mem) (x47_4 : Int32), B_NB_season_47 p1 p2 p3 post R47 M x47_4 → R47 M x47_4) → B_NB_season_i p1 p2 p3 post R47 M
set_option maxHeartbeats 4000000 in
set_option maxRecDepth 100000 in
theorem c_NB_season {Z : ZT} (hZ : IsX Z) (l : Launch) (p1 : Int32) (p2 : Int32) (p3 : Int32) (M : Mem) (post : Int32 → Mem → Prop) (h : P_NB_season M p1 p2 p3 post) : CtI Z l yX8_season cX8_season 5 (some .int) 4 89 [.ref (zb Z + 0), .int p1, .int p2, .int p3] M post := by
  refine ctI (own := RX8) rfl (by decide) (Nat.le_of_ble_eq_true rfl) (fun X C E hr hQ => ?_)
  have s47 : ∀ (M : Mem) (x47_4 : Int32), B_NB_season_47 p1 p2 p3 post (fun (M : Mem) (x47_4 : Int32) => GS Z X 47 [(0, .ref (zb Z + 0)), (1, .int p1), (2, .int p2), (3, .int p3), (4, .int x47_4)] [] M) M x47_4 → GS Z X 47 [(0, .ref (zb Z + 0)), (1, .int p1), (2, .int p2), (3, .int p3), (4, .int x47_4)] [] M := by
    intro M x47_4 h
    unfold B_NB_season_47 at h
    refine g_iload (n := 49) C dX8_season_47 4 rfl rfl ?_
    refine g_iload_n (n := 50) (i := 2) C dX8_season_49 rfl 2 rfl rfl ?_
    refine g_icmp_ge (n := 53) (tgt := 79) C dX8_season_50 (by decide) rfl (fun c => ?_) (fun c => ?_)
    · replace h := h.1 c
      refine g_iload_n (n := 80) (i := 3) C dX8_season_79 rfl 3 rfl rfl ?_
      refine g_if_ne (n := 83) (tgt := 94) C dX8_season_80 (by decide) rfl (fun c => ?_) (fun c => ?_)
      · replace h := h.1 c
        refine g_aload_n (n := 95) (i := 0) C dX8_season_94 rfl 0 rfl rfl ?_
        refine gf_X8_35 (n := 98) C E (ox_0 hZ) dX8_season_95 rfl ?_
        refine g_callNi (n := 101) (kd := 2) C E (c_House_allCoins hZ _ 26 (by unfold Hh; decide) M _ h) yi_X2_allCoins wn_792 rfl (ox_26 hZ) (by decide) (Nat.le_of_ble_eq_true rfl) dX8_season_98 rfl rfl (fun r4 M3 h => ?_)
        exact g_iret C hr hQ dX8_season_101 h
      · replace h := h.2 c
        refine g_aload_n (n := 84) (i := 0) C dX8_season_83 rfl 0 rfl rfl ?_
        refine gf_X8_35 (n := 87) C E (ox_0 hZ) dX8_season_84 rfl ?_
        refine g_iconst (n := 88) (2 : Int32) C dX8_season_87 (by decide) rfl ?_
        refine g_callNi (n := 91) (kd := 2) C E (c_House_howMany hZ _ 26 (by unfold Hh; decide) (2 : Int32) M _ h) yi_X2_howMany wn_571 rfl (ox_26 hZ) (by decide) (Nat.le_of_ble_eq_true rfl) dX8_season_88 rfl rfl (fun r6 M5 h => ?_)
        refine g_goto (tgt := 101) C dX8_season_91 (by decide) ?_
        exact g_iret C hr hQ dX8_season_101 h
    · replace h := h.2 c
      refine g_aload_n (n := 54) (i := 0) C dX8_season_53 rfl 0 rfl rfl ?_
      refine gf_X8_35 (n := 57) C E (ox_0 hZ) dX8_season_54 rfl ?_
      refine g_iload_n (n := 58) (i := 1) C dX8_season_57 rfl 1 rfl rfl ?_
      refine g_iload (n := 60) C dX8_season_58 4 rfl rfl ?_
      refine g_callSi (n := 63) C E (c_NB_drawOf hZ _ p1 x47_4 M _ h) ys_X8_drawOf wd_778 (by decide) (Nat.le_of_ble_eq_true rfl) dX8_season_60 rfl rfl (fun r8 M7 h => ?_)
      refine g_callNv (n := 66) (kd := 2) C E (c_House_disturb hZ _ 26 (by unfold Hh; decide) r8 M7 _ h) yi_X2_disturb wn_784 rfl (ox_26 hZ) (by decide) (Nat.le_of_ble_eq_true rfl) dX8_season_63 rfl rfl (fun M9 h => ?_)
      refine g_aload_n (n := 67) (i := 0) C dX8_season_66 rfl 0 rfl rfl ?_
      refine gf_X8_35 (n := 70) C E (ox_0 hZ) dX8_season_67 rfl ?_
      refine g_callNv (n := 73) (kd := 2) C E (c_House_oneHour hZ _ 26 (by unfold Hh; decide) M9 _ h) yi_X2_oneHour wn_532 rfl (ox_26 hZ) (by decide) (Nat.le_of_ble_eq_true rfl) dX8_season_70 rfl rfl (fun M10 h => ?_)
      refine g_iinc (n := 76) (v := (1 : Int32)) C dX8_season_73 4 rfl (by decide) (Nat.le_of_ble_eq_true rfl) rfl rfl (fun z11 ez11 => ?_)
      replace h := h z11 ez11
      refine g_goto (tgt := 47) C dX8_season_76 (by decide) ?_
      exact g_sub [1, 2, 3, 4, 0] rfl h
  replace h := h (fun (M : Mem) (x47_4 : Int32) => GS Z X 47 [(0, .ref (zb Z + 0)), (1, .int p1), (2, .int p2), (3, .int p3), (4, .int x47_4)] [] M) s47
  unfold B_NB_season_i at h
  show GS Z X 0 [(0, .ref (zb Z + 0)), (1, .int p1), (2, .int p2), (3, .int p3)] [] M
  refine g_iload_n (n := 1) (i := 1) C dX8_season_0 rfl 1 rfl rfl ?_
  refine g_if_lt (n := 4) (tgt := 31) C dX8_season_1 (by decide) rfl (fun c => ?_) (fun c => ?_)
  · replace h := h.1 c
    refine g_iconst (n := 32) (-1 : Int32) C dX8_season_31 (by decide) rfl ?_
    exact g_iret C hr hQ dX8_season_32 h
  · replace h := h.2 c
    refine g_iload_n (n := 5) (i := 1) C dX8_season_4 rfl 1 rfl rfl ?_
    refine g_sipush (n := 8) (9999 : Int32) C dX8_season_5 (by decide) rfl ?_
    refine g_icmp_gt (n := 11) (tgt := 31) C dX8_season_8 (by decide) rfl (fun c => ?_) (fun c => ?_)
    · replace h := h.1 c
      refine g_iconst (n := 32) (-1 : Int32) C dX8_season_31 (by decide) rfl ?_
      exact g_iret C hr hQ dX8_season_32 h
    · replace h := h.2 c
      refine g_iload_n (n := 12) (i := 2) C dX8_season_11 rfl 2 rfl rfl ?_
      refine g_iconst (n := 13) (1 : Int32) C dX8_season_12 (by decide) rfl ?_
      refine g_icmp_lt (n := 16) (tgt := 31) C dX8_season_13 (by decide) rfl (fun c => ?_) (fun c => ?_)
      · replace h := h.1 c
        refine g_iconst (n := 32) (-1 : Int32) C dX8_season_31 (by decide) rfl ?_
        exact g_iret C hr hQ dX8_season_32 h
      · replace h := h.2 c
        refine g_iload_n (n := 17) (i := 2) C dX8_season_16 rfl 2 rfl rfl ?_
        refine g_bipush (n := 19) (60 : Int32) C dX8_season_17 (by decide) rfl ?_
        refine g_icmp_gt (n := 22) (tgt := 31) C dX8_season_19 (by decide) rfl (fun c => ?_) (fun c => ?_)
        · replace h := h.1 c
          refine g_iconst (n := 32) (-1 : Int32) C dX8_season_31 (by decide) rfl ?_
          exact g_iret C hr hQ dX8_season_32 h
        · replace h := h.2 c
          refine g_iload_n (n := 23) (i := 3) C dX8_season_22 rfl 3 rfl rfl ?_
          refine g_if_lt (n := 26) (tgt := 31) C dX8_season_23 (by decide) rfl (fun c => ?_) (fun c => ?_)
          · replace h := h.1 c
            refine g_iconst (n := 32) (-1 : Int32) C dX8_season_31 (by decide) rfl ?_
            exact g_iret C hr hQ dX8_season_32 h
          · replace h := h.2 c
            refine g_iload_n (n := 27) (i := 3) C dX8_season_26 rfl 3 rfl rfl ?_
            refine g_iconst (n := 28) (1 : Int32) C dX8_season_27 (by decide) rfl ?_
            refine g_icmp_le (n := 31) (tgt := 33) C dX8_season_28 (by decide) rfl (fun c => ?_) (fun c => ?_)
            · replace h := h.1 c
              refine g_aload_n (n := 34) (i := 0) C dX8_season_33 rfl 0 rfl rfl ?_
              refine gf_X8_35 (n := 37) C E (ox_0 hZ) dX8_season_34 rfl ?_
              refine g_aload_n (n := 38) (i := 0) C dX8_season_37 rfl 0 rfl rfl ?_
              refine gf_X8_31 (n := 41) C E (ox_0 hZ) dX8_season_38 rfl ?_
              refine g_callNv (n := 44) (kd := 2) C E (c_House_copyFrom hZ _ 26 (by unfold Hh; decide) 18 (by unfold Hh; decide) M _ h) yi_X2_copyFrom wn_643 rfl (ox_26 hZ) (by decide) (Nat.le_of_ble_eq_true rfl) dX8_season_41 rfl rfl (fun M1 h => ?_)
              refine g_iconst (n := 45) (0 : Int32) C dX8_season_44 (by decide) rfl ?_
              refine g_istore (n := 47) (i := 4) C dX8_season_45 (Nat.le_of_ble_eq_true rfl) rfl rfl (fun z2 ez2 => ?_)
              replace h := h z2 ez2
              exact g_sub [1, 2, 3, 4, 0] rfl h
            · replace h := h.2 c
              refine g_iconst (n := 32) (-1 : Int32) C dX8_season_31 (by decide) rfl ?_
              exact g_iret C hr hQ dX8_season_32 h
def B_NB_keep_i  (post : Int32 → Mem → Prop)  (M : Mem)  : Prop :=
  P_Shelf_isFull M 106 2 (fun (r2 : Int32) (M1 : Mem) => (((r2 = 0) → P_Shelf_put M1 106 2 18 (fun (M3 : Mem) => post (M3 106 1) M3)) ∧ ((¬ r2 = 0) → post (-3 : Int32) M1)))
def P_NB_keep (M : Mem)  (post : Int32 → Mem → Prop) : Prop := B_NB_keep_i  post M
set_option maxHeartbeats 4000000 in
set_option maxRecDepth 100000 in
theorem c_NB_keep {Z : ZT} (hZ : IsX Z) (l : Launch)  (M : Mem) (post : Int32 → Mem → Prop) (h : P_NB_keep M  post) : CtI Z l yX8_keep cX8_keep 1 (some .int) 2 45 [.ref (zb Z + 0)] M post := by
  refine ctI (own := RX8) rfl (by decide) (Nat.le_of_ble_eq_true rfl) (fun X C E hr hQ => ?_)
  unfold P_NB_keep at h
  unfold B_NB_keep_i at h
  show GS Z X 0 [(0, .ref (zb Z + 0))] [] M
  refine g_aload_n (n := 1) (i := 0) C dX8_keep_0 rfl 0 rfl rfl ?_
  refine gf_X8_54 (n := 4) C E (ox_0 hZ) dX8_keep_1 rfl ?_
  refine g_callNi (n := 7) (kd := 6) C E (c_Shelf_isFull hZ _ 106 2 (by unfold Hf; decide) M _ h) yi_X6_isFull wn_800 rfl (ox_106 hZ) (by decide) (Nat.le_of_ble_eq_true rfl) dX8_keep_4 rfl rfl (fun r2 M1 h => ?_)
  refine g_if_eq (n := 10) (tgt := 13) C dX8_keep_7 (by decide) rfl (fun c => ?_) (fun c => ?_)
  · replace h := h.1 c
    refine g_aload_n (n := 14) (i := 0) C dX8_keep_13 rfl 0 rfl rfl ?_
    refine gf_X8_54 (n := 17) C E (ox_0 hZ) dX8_keep_14 rfl ?_
    refine g_aload_n (n := 18) (i := 0) C dX8_keep_17 rfl 0 rfl rfl ?_
    refine gf_X8_31 (n := 21) C E (ox_0 hZ) dX8_keep_18 rfl ?_
    refine g_callNv (n := 24) (kd := 6) C E (c_Shelf_put hZ _ 106 2 (by unfold Hf; decide) 18 (by unfold Hh; decide) M1 _ h) yi_X6_put wn_516 rfl (ox_106 hZ) (by decide) (Nat.le_of_ble_eq_true rfl) dX8_keep_21 rfl rfl (fun M3 h => ?_)
    refine g_aload_n (n := 25) (i := 0) C dX8_keep_24 rfl 0 rfl rfl ?_
    refine gf_X8_54 (n := 28) C E (ox_0 hZ) dX8_keep_25 rfl ?_
    refine gf_X8_182 (n := 31) C E (ox_106 hZ) dX8_keep_28 rfl ?_
    exact g_iret C hr hQ dX8_keep_31 h
  · replace h := h.2 c
    refine g_bipush (n := 12) (-3 : Int32) C dX8_keep_10 (by decide) rfl ?_
    exact g_iret C hr hQ dX8_keep_12 h
def B_NB_back_i  (post : Int32 → Mem → Prop)  (M : Mem)  : Prop :=
  P_Shelf_takeInto M 106 2 18 (fun (r2 : Int32) (M1 : Mem) => (((¬ r2 = 0) → P_Shelf_clear M1 40 8 (fun (M3 : Mem) => P_Dealing_goStale M3 (fun (M4 : Mem) => post (M4 106 1) M4))) ∧ ((r2 = 0) → post (-2 : Int32) M1)))
def P_NB_back (M : Mem)  (post : Int32 → Mem → Prop) : Prop := B_NB_back_i  post M
set_option maxHeartbeats 4000000 in
set_option maxRecDepth 100000 in
theorem c_NB_back {Z : ZT} (hZ : IsX Z) (l : Launch)  (M : Mem) (post : Int32 → Mem → Prop) (h : P_NB_back M  post) : CtI Z l yX8_back cX8_back 1 (some .int) 2 44 [.ref (zb Z + 0)] M post := by
  refine ctI (own := RX8) rfl (by decide) (Nat.le_of_ble_eq_true rfl) (fun X C E hr hQ => ?_)
  unfold P_NB_back at h
  unfold B_NB_back_i at h
  show GS Z X 0 [(0, .ref (zb Z + 0))] [] M
  refine g_aload_n (n := 1) (i := 0) C dX8_back_0 rfl 0 rfl rfl ?_
  refine gf_X8_54 (n := 4) C E (ox_0 hZ) dX8_back_1 rfl ?_
  refine g_aload_n (n := 5) (i := 0) C dX8_back_4 rfl 0 rfl rfl ?_
  refine gf_X8_31 (n := 8) C E (ox_0 hZ) dX8_back_5 rfl ?_
  refine g_callNi (n := 11) (kd := 6) C E (c_Shelf_takeInto hZ _ 106 2 (by unfold Hf; decide) 18 (by unfold Hh; decide) M _ h) yi_X6_takeInto wn_587 rfl (ox_106 hZ) (by decide) (Nat.le_of_ble_eq_true rfl) dX8_back_8 rfl rfl (fun r2 M1 h => ?_)
  refine g_if_ne (n := 14) (tgt := 17) C dX8_back_11 (by decide) rfl (fun c => ?_) (fun c => ?_)
  · replace h := h.1 c
    refine g_aload_n (n := 18) (i := 0) C dX8_back_17 rfl 0 rfl rfl ?_
    refine gf_X8_50 (n := 21) C E (ox_0 hZ) dX8_back_18 rfl ?_
    refine g_callNv (n := 24) (kd := 6) C E (c_Shelf_clear hZ _ 40 8 (by unfold Hf; decide) M1 _ h) yi_X6_clear wn_429 rfl (ox_40 hZ) (by decide) (Nat.le_of_ble_eq_true rfl) dX8_back_21 rfl rfl (fun M3 h => ?_)
    refine g_aload_n (n := 25) (i := 0) C dX8_back_24 rfl 0 rfl rfl ?_
    refine gf_X8_60 (n := 28) C E (ox_0 hZ) dX8_back_25 rfl ?_
    refine g_callNv (n := 31) (kd := 1) C E (c_Dealing_goStale hZ _  M3 _ h) yi_X1_goStale wn_437 rfl (ox_124 hZ) (by decide) (Nat.le_of_ble_eq_true rfl) dX8_back_28 rfl rfl (fun M4 h => ?_)
    refine g_aload_n (n := 32) (i := 0) C dX8_back_31 rfl 0 rfl rfl ?_
    refine gf_X8_54 (n := 35) C E (ox_0 hZ) dX8_back_32 rfl ?_
    refine gf_X8_182 (n := 38) C E (ox_106 hZ) dX8_back_35 rfl ?_
    exact g_iret C hr hQ dX8_back_38 h
  · replace h := h.2 c
    refine g_bipush (n := 16) (-2 : Int32) C dX8_back_14 (by decide) rfl ?_
    exact g_iret C hr hQ dX8_back_16 h
def B_NB_count_i (p1 : Int32) (post : Int32 → Mem → Prop)  (M : Mem)  : Prop :=
  (((p1 = (0 : Int32)) → post (M 4 6) M) ∧ (((p1 = (1 : Int32)) → post (M 18 9) M) ∧ (((p1 = (2 : Int32)) → P_House_howMany M 18 (0 : Int32) (fun (r2 : Int32) (M1 : Mem) => post r2 M1)) ∧ (((p1 = (3 : Int32)) → P_House_howMany M 18 (1 : Int32) (fun (r4 : Int32) (M3 : Mem) => post r4 M3)) ∧ (((p1 = (4 : Int32)) → P_House_howMany M 18 (2 : Int32) (fun (r6 : Int32) (M5 : Mem) => post r6 M5)) ∧ (((p1 = (5 : Int32)) → P_House_howMany M 18 (3 : Int32) (fun (r8 : Int32) (M7 : Mem) => post r8 M7)) ∧ (((p1 = (6 : Int32)) → post (M 18 8) M) ∧ (((p1 = (7 : Int32)) → P_House_allCoins M 18 (fun (r10 : Int32) (M9 : Mem) => post r10 M9)) ∧ (((p1 = (8 : Int32)) → P_House_allWork M 18 (fun (r12 : Int32) (M11 : Mem) => post r12 M11)) ∧ (((p1 = (9 : Int32)) → post (M 142 6) M) ∧ (((p1 = (10 : Int32)) → post (M 40 1) M) ∧ (((p1 = (11 : Int32)) → post (M 106 1) M) ∧ (((p1 = (12 : Int32)) → post (M 1 2) M) ∧ ((¬ p1 = (0 : Int32) → ¬ p1 = (1 : Int32) → ¬ p1 = (2 : Int32) → ¬ p1 = (3 : Int32) → ¬ p1 = (4 : Int32) → ¬ p1 = (5 : Int32) → ¬ p1 = (6 : Int32) → ¬ p1 = (7 : Int32) → ¬ p1 = (8 : Int32) → ¬ p1 = (9 : Int32) → ¬ p1 = (10 : Int32) → ¬ p1 = (11 : Int32) → ¬ p1 = (12 : Int32) → post (-1 : Int32) M)))))))))))))))
def P_NB_count (M : Mem) (p1 : Int32) (post : Int32 → Mem → Prop) : Prop := B_NB_count_i p1 post M
set_option maxHeartbeats 4000000 in
set_option maxRecDepth 100000 in
theorem c_NB_count {Z : ZT} (hZ : IsX Z) (l : Launch) (p1 : Int32) (M : Mem) (post : Int32 → Mem → Prop) (h : P_NB_count M p1 post) : CtI Z l yX8_count cX8_count 2 (some .int) 1 23 [.ref (zb Z + 0), .int p1] M post := by
  refine ctI (own := RX8) rfl (by decide) (Nat.le_of_ble_eq_true rfl) (fun X C E hr hQ => ?_)
  unfold P_NB_count at h
  unfold B_NB_count_i at h
  show GS Z X 0 [(0, .ref (zb Z + 0)), (1, .int p1)] [] M
  refine g_iload_n (n := 1) (i := 1) C dX8_count_0 rfl 1 rfl rfl ?_
  by_cases c0 : p1 = (0 : Int32)
  · replace h := h.1 c0
    refine g_tableIn (off := 67) (tgt := 68) C dX8_count_1 c0 (by decide) (by decide) rfl (by decide) ?_
    refine g_aload_n (n := 69) (i := 0) C dX8_count_68 rfl 0 rfl rfl ?_
    refine gf_X8_19 (n := 72) C E (ox_0 hZ) dX8_count_69 rfl ?_
    refine gf_X8_108 (n := 75) C E (ox_4 hZ) dX8_count_72 rfl ?_
    exact g_iret C hr hQ dX8_count_75 h
  by_cases c1 : p1 = (1 : Int32)
  · replace h := h.2.1 c1
    refine g_tableIn (off := 75) (tgt := 76) C dX8_count_1 c1 (by decide) (by decide) rfl (by decide) ?_
    refine g_aload_n (n := 77) (i := 0) C dX8_count_76 rfl 0 rfl rfl ?_
    refine gf_X8_31 (n := 80) C E (ox_0 hZ) dX8_count_77 rfl ?_
    refine gf_X8_154 (n := 83) C E (ox_18 hZ) dX8_count_80 rfl ?_
    exact g_iret C hr hQ dX8_count_83 h
  by_cases c2 : p1 = (2 : Int32)
  · replace h := h.2.2.1 c2
    refine g_tableIn (off := 83) (tgt := 84) C dX8_count_1 c2 (by decide) (by decide) rfl (by decide) ?_
    refine g_aload_n (n := 85) (i := 0) C dX8_count_84 rfl 0 rfl rfl ?_
    refine gf_X8_31 (n := 88) C E (ox_0 hZ) dX8_count_85 rfl ?_
    refine g_iconst (n := 89) (0 : Int32) C dX8_count_88 (by decide) rfl ?_
    refine g_callNi (n := 92) (kd := 2) C E (c_House_howMany hZ _ 18 (by unfold Hh; decide) (0 : Int32) M _ h) yi_X2_howMany wn_571 rfl (ox_18 hZ) (by decide) (Nat.le_of_ble_eq_true rfl) dX8_count_89 rfl rfl (fun r2 M1 h => ?_)
    exact g_iret C hr hQ dX8_count_92 h
  by_cases c3 : p1 = (3 : Int32)
  · replace h := h.2.2.2.1 c3
    refine g_tableIn (off := 92) (tgt := 93) C dX8_count_1 c3 (by decide) (by decide) rfl (by decide) ?_
    refine g_aload_n (n := 94) (i := 0) C dX8_count_93 rfl 0 rfl rfl ?_
    refine gf_X8_31 (n := 97) C E (ox_0 hZ) dX8_count_94 rfl ?_
    refine g_iconst (n := 98) (1 : Int32) C dX8_count_97 (by decide) rfl ?_
    refine g_callNi (n := 101) (kd := 2) C E (c_House_howMany hZ _ 18 (by unfold Hh; decide) (1 : Int32) M _ h) yi_X2_howMany wn_571 rfl (ox_18 hZ) (by decide) (Nat.le_of_ble_eq_true rfl) dX8_count_98 rfl rfl (fun r4 M3 h => ?_)
    exact g_iret C hr hQ dX8_count_101 h
  by_cases c4 : p1 = (4 : Int32)
  · replace h := h.2.2.2.2.1 c4
    refine g_tableIn (off := 101) (tgt := 102) C dX8_count_1 c4 (by decide) (by decide) rfl (by decide) ?_
    refine g_aload_n (n := 103) (i := 0) C dX8_count_102 rfl 0 rfl rfl ?_
    refine gf_X8_31 (n := 106) C E (ox_0 hZ) dX8_count_103 rfl ?_
    refine g_iconst (n := 107) (2 : Int32) C dX8_count_106 (by decide) rfl ?_
    refine g_callNi (n := 110) (kd := 2) C E (c_House_howMany hZ _ 18 (by unfold Hh; decide) (2 : Int32) M _ h) yi_X2_howMany wn_571 rfl (ox_18 hZ) (by decide) (Nat.le_of_ble_eq_true rfl) dX8_count_107 rfl rfl (fun r6 M5 h => ?_)
    exact g_iret C hr hQ dX8_count_110 h
  by_cases c5 : p1 = (5 : Int32)
  · replace h := h.2.2.2.2.2.1 c5
    refine g_tableIn (off := 110) (tgt := 111) C dX8_count_1 c5 (by decide) (by decide) rfl (by decide) ?_
    refine g_aload_n (n := 112) (i := 0) C dX8_count_111 rfl 0 rfl rfl ?_
    refine gf_X8_31 (n := 115) C E (ox_0 hZ) dX8_count_112 rfl ?_
    refine g_iconst (n := 116) (3 : Int32) C dX8_count_115 (by decide) rfl ?_
    refine g_callNi (n := 119) (kd := 2) C E (c_House_howMany hZ _ 18 (by unfold Hh; decide) (3 : Int32) M _ h) yi_X2_howMany wn_571 rfl (ox_18 hZ) (by decide) (Nat.le_of_ble_eq_true rfl) dX8_count_116 rfl rfl (fun r8 M7 h => ?_)
    exact g_iret C hr hQ dX8_count_119 h
  by_cases c6 : p1 = (6 : Int32)
  · replace h := h.2.2.2.2.2.2.1 c6
    refine g_tableIn (off := 119) (tgt := 120) C dX8_count_1 c6 (by decide) (by decide) rfl (by decide) ?_
    refine g_aload_n (n := 121) (i := 0) C dX8_count_120 rfl 0 rfl rfl ?_
    refine gf_X8_31 (n := 124) C E (ox_0 hZ) dX8_count_121 rfl ?_
    refine gf_X8_260 (n := 127) C E (ox_18 hZ) dX8_count_124 rfl ?_
    exact g_iret C hr hQ dX8_count_127 h
  by_cases c7 : p1 = (7 : Int32)
  · replace h := h.2.2.2.2.2.2.2.1 c7
    refine g_tableIn (off := 127) (tgt := 128) C dX8_count_1 c7 (by decide) (by decide) rfl (by decide) ?_
    refine g_aload_n (n := 129) (i := 0) C dX8_count_128 rfl 0 rfl rfl ?_
    refine gf_X8_31 (n := 132) C E (ox_0 hZ) dX8_count_129 rfl ?_
    refine g_callNi (n := 135) (kd := 2) C E (c_House_allCoins hZ _ 18 (by unfold Hh; decide) M _ h) yi_X2_allCoins wn_792 rfl (ox_18 hZ) (by decide) (Nat.le_of_ble_eq_true rfl) dX8_count_132 rfl rfl (fun r10 M9 h => ?_)
    exact g_iret C hr hQ dX8_count_135 h
  by_cases c8 : p1 = (8 : Int32)
  · replace h := h.2.2.2.2.2.2.2.2.1 c8
    refine g_tableIn (off := 135) (tgt := 136) C dX8_count_1 c8 (by decide) (by decide) rfl (by decide) ?_
    refine g_aload_n (n := 137) (i := 0) C dX8_count_136 rfl 0 rfl rfl ?_
    refine gf_X8_31 (n := 140) C E (ox_0 hZ) dX8_count_137 rfl ?_
    refine g_callNi (n := 143) (kd := 2) C E (c_House_allWork hZ _ 18 (by unfold Hh; decide) M _ h) yi_X2_allWork wn_809 rfl (ox_18 hZ) (by decide) (Nat.le_of_ble_eq_true rfl) dX8_count_140 rfl rfl (fun r12 M11 h => ?_)
    exact g_iret C hr hQ dX8_count_143 h
  by_cases c9 : p1 = (9 : Int32)
  · replace h := h.2.2.2.2.2.2.2.2.2.1 c9
    refine g_tableIn (off := 143) (tgt := 144) C dX8_count_1 c9 (by decide) (by decide) rfl (by decide) ?_
    refine g_aload_n (n := 145) (i := 0) C dX8_count_144 rfl 0 rfl rfl ?_
    refine gf_X8_67 (n := 148) C E (ox_0 hZ) dX8_count_145 rfl ?_
    refine gf_X8_224 (n := 151) C E (ox_142 hZ) dX8_count_148 rfl ?_
    exact g_iret C hr hQ dX8_count_151 h
  by_cases c10 : p1 = (10 : Int32)
  · replace h := h.2.2.2.2.2.2.2.2.2.2.1 c10
    refine g_tableIn (off := 151) (tgt := 152) C dX8_count_1 c10 (by decide) (by decide) rfl (by decide) ?_
    refine g_aload_n (n := 153) (i := 0) C dX8_count_152 rfl 0 rfl rfl ?_
    refine gf_X8_50 (n := 156) C E (ox_0 hZ) dX8_count_153 rfl ?_
    refine gf_X8_182 (n := 159) C E (ox_40 hZ) dX8_count_156 rfl ?_
    exact g_iret C hr hQ dX8_count_159 h
  by_cases c11 : p1 = (11 : Int32)
  · replace h := h.2.2.2.2.2.2.2.2.2.2.2.1 c11
    refine g_tableIn (off := 159) (tgt := 160) C dX8_count_1 c11 (by decide) (by decide) rfl (by decide) ?_
    refine g_aload_n (n := 161) (i := 0) C dX8_count_160 rfl 0 rfl rfl ?_
    refine gf_X8_54 (n := 164) C E (ox_0 hZ) dX8_count_161 rfl ?_
    refine gf_X8_182 (n := 167) C E (ox_106 hZ) dX8_count_164 rfl ?_
    exact g_iret C hr hQ dX8_count_167 h
  by_cases c12 : p1 = (12 : Int32)
  · replace h := h.2.2.2.2.2.2.2.2.2.2.2.2.1 c12
    refine g_tableIn (off := 167) (tgt := 168) C dX8_count_1 c12 (by decide) (by decide) rfl (by decide) ?_
    refine g_aload_n (n := 169) (i := 0) C dX8_count_168 rfl 0 rfl rfl ?_
    refine gf_X8_10 (n := 172) C E (ox_0 hZ) dX8_count_169 rfl ?_
    refine gf_X8_101 (n := 175) C E (ox_1 hZ) dX8_count_172 rfl ?_
    exact g_iret C hr hQ dX8_count_175 h
  replace h := h.2.2.2.2.2.2.2.2.2.2.2.2.2 c0 c1 c2 c3 c4 c5 c6 c7 c8 c9 c10 c11 c12
  refine g_tableOut (tgt := 176) C dX8_count_1 (tbl_out (fun k h1 h2 e => ?_)) (by decide) ?_
  · rcases (show k = 0 ∨ k = 1 ∨ k = 2 ∨ k = 3 ∨ k = 4 ∨ k = 5 ∨ k = 6 ∨ k = 7 ∨ k = 8 ∨ k = 9 ∨ k = 10 ∨ k = 11 ∨ k = 12 by omega) with rfl | rfl | rfl | rfl | rfl | rfl | rfl | rfl | rfl | rfl | rfl | rfl | rfl
    · exact c0 e
    · exact c1 e
    · exact c2 e
    · exact c3 e
    · exact c4 e
    · exact c5 e
    · exact c6 e
    · exact c7 e
    · exact c8 e
    · exact c9 e
    · exact c10 e
    · exact c11 e
    · exact c12 e
  · refine g_iconst (n := 177) (-1 : Int32) C dX8_count_176 (by decide) rfl ?_
    exact g_iret C hr hQ dX8_count_177 h
