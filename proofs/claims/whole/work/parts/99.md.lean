theorem we_818 : Cond.methodLink RX9 1 Lib.objectInit ∈ BIG := big_t 818 (by decide +kernel) rfl
theorem we_823 : Cond.methodLink RX9 58 yX9_addsGuest ∈ BIG := big_t 823 (by decide +kernel) rfl
theorem we_825 : Cond.instanceMethod yX9_addsGuest ∈ BIG := big_t 825 (by decide +kernel) rfl
theorem we_826 : Cond.code yX9_addsGuest cX9_addsGuest 7 none ∈ BIG := big_t 826 (by decide +kernel) rfl
theorem yi_X9_addsGuest : YI yX9_addsGuest cX9_addsGuest 7 none 5 := ⟨we_825, big_p (y := yX9_addsGuest) (n := 24) (List.mem_of_getElem? (i := 66) (by decide +kernel)), wd_15, we_826, by decide, by decide, by decide +kernel⟩
def bMD (Z : ZT) (lo : Nat) : List va_E := [.inr (9, [.ref (lo + 1), .int 0, .int 0, .int 0, .ref (lo + 2), .ref (lo + 3), .ref (lo + 4), .ref (lo + 5), .int 0, .ref (lo + 6), .ref (lo + 7), .ref (lo + 8), .int 0, .int 0, .int 0, .int 0, .ref (lo + 9), .int 0, .ref (lo + 10), .ref (lo + 11), .ref (lo + 12), .ref (lo + 13), .ref (lo + 14), .ref (lo + 15)]), .inl (zI Z, (612, .inl (fun _ => 0))), .inl (zI Z, (7, .inl (fun _ => 0))), .inl (zI Z, (7, .inl (fun _ => 0))), .inl (zI Z, (7, .inl (fun _ => 0))), .inl (zI Z, (7, .inl (fun _ => 0))), .inl (zI Z, (7, .inl (fun _ => 0))), .inl (zI Z, (7, .inl (fun _ => 0))), .inl (zI Z, (200, .inl (fun _ => 0))), .inl (zI Z, (35, .inl (fun _ => 0))), .inl (zI Z, (7, .inl (fun _ => 0))), .inl (zI Z, (7, .inl (fun _ => 0))), .inl (zI Z, (8, .inl (fun _ => 0))), .inl (zI Z, (7, .inl (fun _ => 0))), .inl (zI Z, (8, .inl (fun _ => 0))), .inl (zI Z, (7, .inl (fun _ => 0)))]
def N0 : Mem := fun _ _ => 0
theorem Wd_of {Z : ZT} {M : Mem} {L : List va_E} {H : Heap} (hp : PG Z (zb Z) L H) (h : L = (List.range (zn Z)).map (fun k => cellE Z (M k) k)) : Wd Z M H := fun k q hk => by
  obtain ⟨h1, rfl⟩ := wl_inv hk
  exact hp.2 k _ (by rw [h, List.getElem?_map, List.getElem?_range h1]; rfl)
set_option maxRecDepth 100000 in
theorem md_world {Z : ZT} (hZ : IsM Z) {H : Heap} (hp : PG Z (zb Z) (bMD Z (zb Z)) H) : Wd Z N0 H := by
  refine Wd_of hp ?_
  unfold cellE
  rw [hZ.1, hZ.2]
  rfl
set_option maxHeartbeats 4000000 in
set_option maxRecDepth 100000 in
theorem md_straight {Z : ZT} {X : XT} {fr lx lo : Nat} (hf : 1 ≤ fr) (hlx : 12 ≤ lx) (C : CX X cX9_init RX9 1 fr lx) (E : EK Z (xs X)) (hin2 : (xt X).name = "<init>") (hcm : (xR X).cells = 15) (hsm : (xR X).slots = 933) (k : GW (PG Z lo (bMD Z lo)) (fun q => lo ≤ q) X 15 933 126 [(0, .ref lo)] []) : GW (PG Z lo [.inr (9, dfX9)]) (fun q => lo ≤ q) X 0 0 0 [(0, .ref lo)] [] := by
  refine h_aload_n (n := 1) (i := 0) C dX9_init_0 rfl 0 rfl rfl ?_
  refine h_obj (n := 4) C we_818 we_22 we_23 hf hlx dX9_init_1 rfl ?_
  refine h_aload_n (n := 5) (i := 0) C dX9_init_4 rfl 0 rfl rfl ?_
  refine h_sipush (n := 8) (612 : Int32) C dX9_init_5 (by decide) rfl ?_
  refine w_newa (n := 10) (N := 612) (d0 := 1) C E.1 we_41 (by decide) (by decide) (Nat.le_of_ble_eq_true rfl) hcm hsm (Nat.le_of_ble_eq_true rfl) (Nat.le_of_ble_eq_true rfl) rfl dX9_init_8 rfl ?_
  refine w_put (n := 13) (kd := 9) (ty := tyX9 0) 0 C E.1 rfl inB9 tyX9 tyX9_ok nmX9 (by decide) wd_835 (Or.inr ⟨rfl, hin2, rfl⟩) (tyX9_ok 0 (by decide)) rfl rfl (Nat.le_of_ble_eq_true rfl) (Nat.le_refl _) dX9_init_10 rfl ?_
  refine h_aload_n (n := 14) (i := 0) C dX9_init_13 rfl 0 rfl rfl ?_
  refine h_bipush (n := 16) (7 : Int32) C dX9_init_14 (by decide) rfl ?_
  refine w_newa (n := 18) (N := 7) (d0 := 2) C E.1 we_41 (by decide) (by decide) (Nat.le_of_ble_eq_true rfl) hcm hsm (Nat.le_of_ble_eq_true rfl) (Nat.le_of_ble_eq_true rfl) rfl dX9_init_16 rfl ?_
  refine w_put (n := 21) (kd := 9) (ty := tyX9 4) 4 C E.1 rfl inB9 tyX9 tyX9_ok nmX9 (by decide) wd_839 (Or.inr ⟨rfl, hin2, rfl⟩) (tyX9_ok 4 (by decide)) rfl rfl (Nat.le_of_ble_eq_true rfl) (Nat.le_refl _) dX9_init_18 rfl ?_
  refine h_aload_n (n := 22) (i := 0) C dX9_init_21 rfl 0 rfl rfl ?_
  refine h_bipush (n := 24) (7 : Int32) C dX9_init_22 (by decide) rfl ?_
  refine w_newa (n := 26) (N := 7) (d0 := 3) C E.1 we_41 (by decide) (by decide) (Nat.le_of_ble_eq_true rfl) hcm hsm (Nat.le_of_ble_eq_true rfl) (Nat.le_of_ble_eq_true rfl) rfl dX9_init_24 rfl ?_
  refine w_put (n := 29) (kd := 9) (ty := tyX9 5) 5 C E.1 rfl inB9 tyX9 tyX9_ok nmX9 (by decide) wd_840 (Or.inr ⟨rfl, hin2, rfl⟩) (tyX9_ok 5 (by decide)) rfl rfl (Nat.le_of_ble_eq_true rfl) (Nat.le_refl _) dX9_init_26 rfl ?_
  refine h_aload_n (n := 30) (i := 0) C dX9_init_29 rfl 0 rfl rfl ?_
  refine h_bipush (n := 32) (7 : Int32) C dX9_init_30 (by decide) rfl ?_
  refine w_newa (n := 34) (N := 7) (d0 := 4) C E.1 we_41 (by decide) (by decide) (Nat.le_of_ble_eq_true rfl) hcm hsm (Nat.le_of_ble_eq_true rfl) (Nat.le_of_ble_eq_true rfl) rfl dX9_init_32 rfl ?_
  refine w_put (n := 37) (kd := 9) (ty := tyX9 6) 6 C E.1 rfl inB9 tyX9 tyX9_ok nmX9 (by decide) wd_841 (Or.inr ⟨rfl, hin2, rfl⟩) (tyX9_ok 6 (by decide)) rfl rfl (Nat.le_of_ble_eq_true rfl) (Nat.le_refl _) dX9_init_34 rfl ?_
  refine h_aload_n (n := 38) (i := 0) C dX9_init_37 rfl 0 rfl rfl ?_
  refine h_bipush (n := 40) (7 : Int32) C dX9_init_38 (by decide) rfl ?_
  refine w_newa (n := 42) (N := 7) (d0 := 5) C E.1 we_41 (by decide) (by decide) (Nat.le_of_ble_eq_true rfl) hcm hsm (Nat.le_of_ble_eq_true rfl) (Nat.le_of_ble_eq_true rfl) rfl dX9_init_40 rfl ?_
  refine w_put (n := 45) (kd := 9) (ty := tyX9 7) 7 C E.1 rfl inB9 tyX9 tyX9_ok nmX9 (by decide) wd_842 (Or.inr ⟨rfl, hin2, rfl⟩) (tyX9_ok 7 (by decide)) rfl rfl (Nat.le_of_ble_eq_true rfl) (Nat.le_refl _) dX9_init_42 rfl ?_
  refine h_aload_n (n := 46) (i := 0) C dX9_init_45 rfl 0 rfl rfl ?_
  refine h_bipush (n := 48) (7 : Int32) C dX9_init_46 (by decide) rfl ?_
  refine w_newa (n := 50) (N := 7) (d0 := 6) C E.1 we_41 (by decide) (by decide) (Nat.le_of_ble_eq_true rfl) hcm hsm (Nat.le_of_ble_eq_true rfl) (Nat.le_of_ble_eq_true rfl) rfl dX9_init_48 rfl ?_
  refine w_put (n := 53) (kd := 9) (ty := tyX9 9) 9 C E.1 rfl inB9 tyX9 tyX9_ok nmX9 (by decide) wd_844 (Or.inr ⟨rfl, hin2, rfl⟩) (tyX9_ok 9 (by decide)) rfl rfl (Nat.le_of_ble_eq_true rfl) (Nat.le_refl _) dX9_init_50 rfl ?_
  refine h_aload_n (n := 54) (i := 0) C dX9_init_53 rfl 0 rfl rfl ?_
  refine h_bipush (n := 56) (7 : Int32) C dX9_init_54 (by decide) rfl ?_
  refine w_newa (n := 58) (N := 7) (d0 := 7) C E.1 we_41 (by decide) (by decide) (Nat.le_of_ble_eq_true rfl) hcm hsm (Nat.le_of_ble_eq_true rfl) (Nat.le_of_ble_eq_true rfl) rfl dX9_init_56 rfl ?_
  refine w_put (n := 61) (kd := 9) (ty := tyX9 10) 10 C E.1 rfl inB9 tyX9 tyX9_ok nmX9 (by decide) wd_845 (Or.inr ⟨rfl, hin2, rfl⟩) (tyX9_ok 10 (by decide)) rfl rfl (Nat.le_of_ble_eq_true rfl) (Nat.le_refl _) dX9_init_58 rfl ?_
  refine h_aload_n (n := 62) (i := 0) C dX9_init_61 rfl 0 rfl rfl ?_
  refine h_sipush (n := 65) (200 : Int32) C dX9_init_62 (by decide) rfl ?_
  refine w_newa (n := 67) (N := 200) (d0 := 8) C E.1 we_41 (by decide) (by decide) (Nat.le_of_ble_eq_true rfl) hcm hsm (Nat.le_of_ble_eq_true rfl) (Nat.le_of_ble_eq_true rfl) rfl dX9_init_65 rfl ?_
  refine w_put (n := 70) (kd := 9) (ty := tyX9 11) 11 C E.1 rfl inB9 tyX9 tyX9_ok nmX9 (by decide) wd_846 (Or.inr ⟨rfl, hin2, rfl⟩) (tyX9_ok 11 (by decide)) rfl rfl (Nat.le_of_ble_eq_true rfl) (Nat.le_refl _) dX9_init_67 rfl ?_
  refine h_aload_n (n := 71) (i := 0) C dX9_init_70 rfl 0 rfl rfl ?_
  refine h_bipush (n := 73) (35 : Int32) C dX9_init_71 (by decide) rfl ?_
  refine w_newa (n := 75) (N := 35) (d0 := 9) C E.1 we_41 (by decide) (by decide) (Nat.le_of_ble_eq_true rfl) hcm hsm (Nat.le_of_ble_eq_true rfl) (Nat.le_of_ble_eq_true rfl) rfl dX9_init_73 rfl ?_
  refine w_put (n := 78) (kd := 9) (ty := tyX9 16) 16 C E.1 rfl inB9 tyX9 tyX9_ok nmX9 (by decide) wd_851 (Or.inr ⟨rfl, hin2, rfl⟩) (tyX9_ok 16 (by decide)) rfl rfl (Nat.le_of_ble_eq_true rfl) (Nat.le_refl _) dX9_init_75 rfl ?_
  refine h_aload_n (n := 79) (i := 0) C dX9_init_78 rfl 0 rfl rfl ?_
  refine h_bipush (n := 81) (7 : Int32) C dX9_init_79 (by decide) rfl ?_
  refine w_newa (n := 83) (N := 7) (d0 := 10) C E.1 we_41 (by decide) (by decide) (Nat.le_of_ble_eq_true rfl) hcm hsm (Nat.le_of_ble_eq_true rfl) (Nat.le_of_ble_eq_true rfl) rfl dX9_init_81 rfl ?_
  refine w_put (n := 86) (kd := 9) (ty := tyX9 18) 18 C E.1 rfl inB9 tyX9 tyX9_ok nmX9 (by decide) wd_853 (Or.inr ⟨rfl, hin2, rfl⟩) (tyX9_ok 18 (by decide)) rfl rfl (Nat.le_of_ble_eq_true rfl) (Nat.le_refl _) dX9_init_83 rfl ?_
  refine h_aload_n (n := 87) (i := 0) C dX9_init_86 rfl 0 rfl rfl ?_
  refine h_bipush (n := 89) (7 : Int32) C dX9_init_87 (by decide) rfl ?_
  refine w_newa (n := 91) (N := 7) (d0 := 11) C E.1 we_41 (by decide) (by decide) (Nat.le_of_ble_eq_true rfl) hcm hsm (Nat.le_of_ble_eq_true rfl) (Nat.le_of_ble_eq_true rfl) rfl dX9_init_89 rfl ?_
  refine w_put (n := 94) (kd := 9) (ty := tyX9 19) 19 C E.1 rfl inB9 tyX9 tyX9_ok nmX9 (by decide) wd_854 (Or.inr ⟨rfl, hin2, rfl⟩) (tyX9_ok 19 (by decide)) rfl rfl (Nat.le_of_ble_eq_true rfl) (Nat.le_refl _) dX9_init_91 rfl ?_
  refine h_aload_n (n := 95) (i := 0) C dX9_init_94 rfl 0 rfl rfl ?_
  refine h_bipush (n := 97) (8 : Int32) C dX9_init_95 (by decide) rfl ?_
  refine w_newa (n := 99) (N := 8) (d0 := 12) C E.1 we_41 (by decide) (by decide) (Nat.le_of_ble_eq_true rfl) hcm hsm (Nat.le_of_ble_eq_true rfl) (Nat.le_of_ble_eq_true rfl) rfl dX9_init_97 rfl ?_
  refine w_put (n := 102) (kd := 9) (ty := tyX9 20) 20 C E.1 rfl inB9 tyX9 tyX9_ok nmX9 (by decide) wd_855 (Or.inr ⟨rfl, hin2, rfl⟩) (tyX9_ok 20 (by decide)) rfl rfl (Nat.le_of_ble_eq_true rfl) (Nat.le_refl _) dX9_init_99 rfl ?_
  refine h_aload_n (n := 103) (i := 0) C dX9_init_102 rfl 0 rfl rfl ?_
  refine h_bipush (n := 105) (7 : Int32) C dX9_init_103 (by decide) rfl ?_
  refine w_newa (n := 107) (N := 7) (d0 := 13) C E.1 we_41 (by decide) (by decide) (Nat.le_of_ble_eq_true rfl) hcm hsm (Nat.le_of_ble_eq_true rfl) (Nat.le_of_ble_eq_true rfl) rfl dX9_init_105 rfl ?_
  refine w_put (n := 110) (kd := 9) (ty := tyX9 21) 21 C E.1 rfl inB9 tyX9 tyX9_ok nmX9 (by decide) wd_856 (Or.inr ⟨rfl, hin2, rfl⟩) (tyX9_ok 21 (by decide)) rfl rfl (Nat.le_of_ble_eq_true rfl) (Nat.le_refl _) dX9_init_107 rfl ?_
  refine h_aload_n (n := 111) (i := 0) C dX9_init_110 rfl 0 rfl rfl ?_
  refine h_bipush (n := 113) (8 : Int32) C dX9_init_111 (by decide) rfl ?_
  refine w_newa (n := 115) (N := 8) (d0 := 14) C E.1 we_41 (by decide) (by decide) (Nat.le_of_ble_eq_true rfl) hcm hsm (Nat.le_of_ble_eq_true rfl) (Nat.le_of_ble_eq_true rfl) rfl dX9_init_113 rfl ?_
  refine w_put (n := 118) (kd := 9) (ty := tyX9 22) 22 C E.1 rfl inB9 tyX9 tyX9_ok nmX9 (by decide) wd_857 (Or.inr ⟨rfl, hin2, rfl⟩) (tyX9_ok 22 (by decide)) rfl rfl (Nat.le_of_ble_eq_true rfl) (Nat.le_refl _) dX9_init_115 rfl ?_
  refine h_aload_n (n := 119) (i := 0) C dX9_init_118 rfl 0 rfl rfl ?_
  refine h_bipush (n := 121) (7 : Int32) C dX9_init_119 (by decide) rfl ?_
  refine w_newa (n := 123) (N := 7) (d0 := 15) C E.1 we_41 (by decide) (by decide) (Nat.le_of_ble_eq_true rfl) hcm hsm (Nat.le_of_ble_eq_true rfl) (Nat.le_of_ble_eq_true rfl) rfl dX9_init_121 rfl ?_
  refine w_put (n := 126) (kd := 9) (ty := tyX9 23) 23 C E.1 rfl inB9 tyX9 tyX9_ok nmX9 (by decide) wd_858 (Or.inr ⟨rfl, hin2, rfl⟩) (tyX9_ok 23 (by decide)) rfl rfl (Nat.le_of_ble_eq_true rfl) (Nat.le_refl _) dX9_init_123 rfl ?_
  exact k
set_option maxHeartbeats 4000000 in
set_option maxRecDepth 100000 in
theorem c_MD_init {Z : ZT} (hZ : IsM Z) (l : Launch) : CtN Z l yX9_init cX9_init 1 1 26 15 933 [] 9 (zb Z) dfX9 (EXA Z (fun q => zb Z ≤ q)) (fun H => ∃ N : Mem, RM s0 N ∧ Wd Z N H) := by
  refine ctN (own := RX9) rfl (by decide) rfl (Nat.le_of_ble_eq_true rfl) (fun X C E hr hin2 hcm hsm hQ _ => ?_)
  show GW _ _ X 0 0 0 [(0, .ref (zb Z))] []
  refine md_straight (Nat.le_of_ble_eq_true rfl) (Nat.le_of_ble_eq_true rfl) C E.1 hin2 hcm hsm ?_
  refine h_imp (fun H h => md_world hZ h) ?_
  have hcc : 15 ≤ (xR X).cells := by rw [hcm]; exact Nat.le_refl _
  have hss : 933 ≤ (xR X).slots := by rw [hsm]; exact Nat.le_refl _
  have h := m_new (N := N0) (post := fun N' => RM s0 N') rfl (fun N' R => R)
  refine h_aload_n (n := 127) (i := 0) C dX9_init_126 rfl 0 rfl rfl ?_
  refine q_callVv (n := 130) (kd := 9) (a := 0) (M := N0) (As := []) (rest := []) (Pr1 := fun N' H => Wd Z N' H) C E (fun q hq => hq.1) (c_MD_starts hZ _ N0 _ h) yi_X9_starts wd_819 rfl (om_0 hZ) ⟨(Nat.le_of_ble_eq_true rfl), (Nat.le_of_ble_eq_true rfl)⟩ (Nat.le_of_ble_eq_true rfl) hcc hss (fun H h => h) (fun H H1 N' _ h _ => h) dX9_init_127 rfl rfl (fun N1 h => ?_)
  refine h_aload_n (n := 131) (i := 0) C dX9_init_130 rfl 0 rfl rfl ?_
  refine h_iconst (n := 132) (0 : Int32) C dX9_init_131 (by decide) rfl ?_
  refine h_iconst (n := 133) (2 : Int32) C dX9_init_132 (by decide) rfl ?_
  refine h_bipush (n := 135) (10 : Int32) C dX9_init_133 (by decide) rfl ?_
  refine h_iconst (n := 136) (4 : Int32) C dX9_init_135 (by decide) rfl ?_
  refine h_iconst (n := 137) (3 : Int32) C dX9_init_136 (by decide) rfl ?_
  refine q_callVv (n := 140) (kd := 9) (a := 0) (M := N1) (As := [.int (0 : Int32), .int (2 : Int32), .int (10 : Int32), .int (4 : Int32), .int (3 : Int32)]) (rest := []) (Pr1 := fun N' H => Wd Z N' H) C E (fun q hq => hq.1) (c_MD_addsGuest hZ _ (0 : Int32) (2 : Int32) (10 : Int32) (4 : Int32) (3 : Int32) N1 _ h) yi_X9_addsGuest we_823 rfl (om_0 hZ) ⟨(Nat.le_of_ble_eq_true rfl), (Nat.le_of_ble_eq_true rfl)⟩ (Nat.le_of_ble_eq_true rfl) hcc hss (fun H h => h) (fun H H1 N' _ h _ => h) dX9_init_137 rfl rfl (fun N2 h => ?_)
  refine h_aload_n (n := 141) (i := 0) C dX9_init_140 rfl 0 rfl rfl ?_
  refine h_iconst (n := 142) (1 : Int32) C dX9_init_141 (by decide) rfl ?_
  refine h_iconst (n := 143) (4 : Int32) C dX9_init_142 (by decide) rfl ?_
  refine h_bipush (n := 145) (8 : Int32) C dX9_init_143 (by decide) rfl ?_
  refine h_bipush (n := 147) (9 : Int32) C dX9_init_145 (by decide) rfl ?_
  refine h_iconst (n := 148) (2 : Int32) C dX9_init_147 (by decide) rfl ?_
  refine q_callVv (n := 151) (kd := 9) (a := 0) (M := N2) (As := [.int (1 : Int32), .int (4 : Int32), .int (8 : Int32), .int (9 : Int32), .int (2 : Int32)]) (rest := []) (Pr1 := fun N' H => Wd Z N' H) C E (fun q hq => hq.1) (c_MD_addsGuest hZ _ (1 : Int32) (4 : Int32) (8 : Int32) (9 : Int32) (2 : Int32) N2 _ h) yi_X9_addsGuest we_823 rfl (om_0 hZ) ⟨(Nat.le_of_ble_eq_true rfl), (Nat.le_of_ble_eq_true rfl)⟩ (Nat.le_of_ble_eq_true rfl) hcc hss (fun H h => h) (fun H H1 N' _ h _ => h) dX9_init_148 rfl rfl (fun N3 h => ?_)
  refine h_aload_n (n := 152) (i := 0) C dX9_init_151 rfl 0 rfl rfl ?_
  refine h_iconst (n := 153) (2 : Int32) C dX9_init_152 (by decide) rfl ?_
  refine h_iconst (n := 154) (5 : Int32) C dX9_init_153 (by decide) rfl ?_
  refine h_bipush (n := 156) (6 : Int32) C dX9_init_154 (by decide) rfl ?_
  refine h_iconst (n := 157) (0 : Int32) C dX9_init_156 (by decide) rfl ?_
  refine h_iconst (n := 158) (1 : Int32) C dX9_init_157 (by decide) rfl ?_
  refine q_callVv (n := 161) (kd := 9) (a := 0) (M := N3) (As := [.int (2 : Int32), .int (5 : Int32), .int (6 : Int32), .int (0 : Int32), .int (1 : Int32)]) (rest := []) (Pr1 := fun N' H => Wd Z N' H) C E (fun q hq => hq.1) (c_MD_addsGuest hZ _ (2 : Int32) (5 : Int32) (6 : Int32) (0 : Int32) (1 : Int32) N3 _ h) yi_X9_addsGuest we_823 rfl (om_0 hZ) ⟨(Nat.le_of_ble_eq_true rfl), (Nat.le_of_ble_eq_true rfl)⟩ (Nat.le_of_ble_eq_true rfl) hcc hss (fun H h => h) (fun H H1 N' _ h _ => h) dX9_init_158 rfl rfl (fun N4 h => ?_)
  refine h_aload_n (n := 162) (i := 0) C dX9_init_161 rfl 0 rfl rfl ?_
  refine h_iconst (n := 163) (0 : Int32) C dX9_init_162 (by decide) rfl ?_
  refine h_bipush (n := 165) (7 : Int32) C dX9_init_163 (by decide) rfl ?_
  refine h_bipush (n := 167) (12 : Int32) C dX9_init_165 (by decide) rfl ?_
  refine h_iconst (n := 168) (5 : Int32) C dX9_init_167 (by decide) rfl ?_
  refine h_iconst (n := 169) (4 : Int32) C dX9_init_168 (by decide) rfl ?_
  refine q_callVv (n := 172) (kd := 9) (a := 0) (M := N4) (As := [.int (0 : Int32), .int (7 : Int32), .int (12 : Int32), .int (5 : Int32), .int (4 : Int32)]) (rest := []) (Pr1 := fun N' H => Wd Z N' H) C E (fun q hq => hq.1) (c_MD_addsGuest hZ _ (0 : Int32) (7 : Int32) (12 : Int32) (5 : Int32) (4 : Int32) N4 _ h) yi_X9_addsGuest we_823 rfl (om_0 hZ) ⟨(Nat.le_of_ble_eq_true rfl), (Nat.le_of_ble_eq_true rfl)⟩ (Nat.le_of_ble_eq_true rfl) hcc hss (fun H h => h) (fun H H1 N' _ h _ => h) dX9_init_169 rfl rfl (fun N5 h => ?_)
  refine h_aload_n (n := 173) (i := 0) C dX9_init_172 rfl 0 rfl rfl ?_
  refine h_iconst (n := 174) (3 : Int32) C dX9_init_173 (by decide) rfl ?_
  refine h_bipush (n := 176) (7 : Int32) C dX9_init_174 (by decide) rfl ?_
  refine h_bipush (n := 178) (9 : Int32) C dX9_init_176 (by decide) rfl ?_
  refine h_iconst (n := 179) (2 : Int32) C dX9_init_178 (by decide) rfl ?_
  refine h_iconst (n := 180) (2 : Int32) C dX9_init_179 (by decide) rfl ?_
  refine q_callVv (n := 183) (kd := 9) (a := 0) (M := N5) (As := [.int (3 : Int32), .int (7 : Int32), .int (9 : Int32), .int (2 : Int32), .int (2 : Int32)]) (rest := []) (Pr1 := fun N' H => Wd Z N' H) C E (fun q hq => hq.1) (c_MD_addsGuest hZ _ (3 : Int32) (7 : Int32) (9 : Int32) (2 : Int32) (2 : Int32) N5 _ h) yi_X9_addsGuest we_823 rfl (om_0 hZ) ⟨(Nat.le_of_ble_eq_true rfl), (Nat.le_of_ble_eq_true rfl)⟩ (Nat.le_of_ble_eq_true rfl) hcc hss (fun H h => h) (fun H H1 N' _ h _ => h) dX9_init_180 rfl rfl (fun N6 h => ?_)
  refine h_aload_n (n := 184) (i := 0) C dX9_init_183 rfl 0 rfl rfl ?_
  refine h_iconst (n := 185) (0 : Int32) C dX9_init_184 (by decide) rfl ?_
  refine h_bipush (n := 187) (15 : Int32) C dX9_init_185 (by decide) rfl ?_
  refine h_iconst (n := 188) (5 : Int32) C dX9_init_187 (by decide) rfl ?_
  refine h_bipush (n := 190) (6 : Int32) C dX9_init_188 (by decide) rfl ?_
  refine h_iconst (n := 191) (3 : Int32) C dX9_init_190 (by decide) rfl ?_
  refine q_callVv (n := 194) (kd := 9) (a := 0) (M := N6) (As := [.int (0 : Int32), .int (15 : Int32), .int (5 : Int32), .int (6 : Int32), .int (3 : Int32)]) (rest := []) (Pr1 := fun N' H => Wd Z N' H) C E (fun q hq => hq.1) (c_MD_addsGuest hZ _ (0 : Int32) (15 : Int32) (5 : Int32) (6 : Int32) (3 : Int32) N6 _ h) yi_X9_addsGuest we_823 rfl (om_0 hZ) ⟨(Nat.le_of_ble_eq_true rfl), (Nat.le_of_ble_eq_true rfl)⟩ (Nat.le_of_ble_eq_true rfl) hcc hss (fun H h => h) (fun H H1 N' _ h _ => h) dX9_init_191 rfl rfl (fun N7 h => ?_)
  refine h_aload_n (n := 195) (i := 0) C dX9_init_194 rfl 0 rfl rfl ?_
  refine h_iconst (n := 196) (2 : Int32) C dX9_init_195 (by decide) rfl ?_
  refine q_callVv (n := 199) (kd := 9) (a := 0) (M := N7) (As := [.int (2 : Int32)]) (rest := []) (Pr1 := fun N' H => Wd Z N' H) C E (fun q hq => hq.1) (c_MD_addsRoom hZ _ (2 : Int32) N7 _ h) yi_X9_addsRoom wd_827 rfl (om_0 hZ) ⟨(Nat.le_of_ble_eq_true rfl), (Nat.le_of_ble_eq_true rfl)⟩ (Nat.le_of_ble_eq_true rfl) hcc hss (fun H h => h) (fun H H1 N' _ h _ => h) dX9_init_196 rfl rfl (fun N8 h => ?_)
  refine h_aload_n (n := 200) (i := 0) C dX9_init_199 rfl 0 rfl rfl ?_
  refine h_iconst (n := 201) (5 : Int32) C dX9_init_200 (by decide) rfl ?_
  refine q_callVv (n := 204) (kd := 9) (a := 0) (M := N8) (As := [.int (5 : Int32)]) (rest := []) (Pr1 := fun N' H => Wd Z N' H) C E (fun q hq => hq.1) (c_MD_addsRoom hZ _ (5 : Int32) N8 _ h) yi_X9_addsRoom wd_827 rfl (om_0 hZ) ⟨(Nat.le_of_ble_eq_true rfl), (Nat.le_of_ble_eq_true rfl)⟩ (Nat.le_of_ble_eq_true rfl) hcc hss (fun H h => h) (fun H H1 N' _ h _ => h) dX9_init_201 rfl rfl (fun N9 h => ?_)
  refine h_aload_n (n := 205) (i := 0) C dX9_init_204 rfl 0 rfl rfl ?_
  refine h_iconst (n := 206) (1 : Int32) C dX9_init_205 (by decide) rfl ?_
  refine q_callVv (n := 209) (kd := 9) (a := 0) (M := N9) (As := [.int (1 : Int32)]) (rest := []) (Pr1 := fun N' H => Wd Z N' H) C E (fun q hq => hq.1) (c_MD_addsRoom hZ _ (1 : Int32) N9 _ h) yi_X9_addsRoom wd_827 rfl (om_0 hZ) ⟨(Nat.le_of_ble_eq_true rfl), (Nat.le_of_ble_eq_true rfl)⟩ (Nat.le_of_ble_eq_true rfl) hcc hss (fun H h => h) (fun H H1 N' _ h _ => h) dX9_init_206 rfl rfl (fun N10 h => ?_)
  refine h_aload_n (n := 210) (i := 0) C dX9_init_209 rfl 0 rfl rfl ?_
  refine h_iconst (n := 211) (4 : Int32) C dX9_init_210 (by decide) rfl ?_
  refine q_callVv (n := 214) (kd := 9) (a := 0) (M := N10) (As := [.int (4 : Int32)]) (rest := []) (Pr1 := fun N' H => Wd Z N' H) C E (fun q hq => hq.1) (c_MD_addsRoom hZ _ (4 : Int32) N10 _ h) yi_X9_addsRoom wd_827 rfl (om_0 hZ) ⟨(Nat.le_of_ble_eq_true rfl), (Nat.le_of_ble_eq_true rfl)⟩ (Nat.le_of_ble_eq_true rfl) hcc hss (fun H h => h) (fun H H1 N' _ h _ => h) dX9_init_211 rfl rfl (fun N11 h => ?_)
  refine h_aload_n (n := 215) (i := 0) C dX9_init_214 rfl 0 rfl rfl ?_
  refine h_iconst (n := 216) (0 : Int32) C dX9_init_215 (by decide) rfl ?_
  refine q_callVv (n := 219) (kd := 9) (a := 0) (M := N11) (As := [.int (0 : Int32)]) (rest := []) (Pr1 := fun N' H => Wd Z N' H) C E (fun q hq => hq.1) (c_MD_addsRoom hZ _ (0 : Int32) N11 _ h) yi_X9_addsRoom wd_827 rfl (om_0 hZ) ⟨(Nat.le_of_ble_eq_true rfl), (Nat.le_of_ble_eq_true rfl)⟩ (Nat.le_of_ble_eq_true rfl) hcc hss (fun H h => h) (fun H H1 N' _ h _ => h) dX9_init_216 rfl rfl (fun N12 h => ?_)
  refine h_aload_n (n := 220) (i := 0) C dX9_init_219 rfl 0 rfl rfl ?_
  refine h_iconst (n := 221) (3 : Int32) C dX9_init_220 (by decide) rfl ?_
  refine q_callVv (n := 224) (kd := 9) (a := 0) (M := N12) (As := [.int (3 : Int32)]) (rest := []) (Pr1 := fun N' H => Wd Z N' H) C E (fun q hq => hq.1) (c_MD_addsRoom hZ _ (3 : Int32) N12 _ h) yi_X9_addsRoom wd_827 rfl (om_0 hZ) ⟨(Nat.le_of_ble_eq_true rfl), (Nat.le_of_ble_eq_true rfl)⟩ (Nat.le_of_ble_eq_true rfl) hcc hss (fun H h => h) (fun H H1 N' _ h _ => h) dX9_init_221 rfl rfl (fun N13 h => ?_)
  refine h_aload_n (n := 225) (i := 0) C dX9_init_224 rfl 0 rfl rfl ?_
  refine q_callVv (n := 228) (kd := 9) (a := 0) (M := N13) (As := []) (rest := []) (Pr1 := fun N' H => Wd Z N' H) C E (fun q hq => hq.1) (c_MD_begins hZ _ N13 _ h) yi_X9_begins wd_831 rfl (om_0 hZ) ⟨(Nat.le_of_ble_eq_true rfl), (Nat.le_of_ble_eq_true rfl)⟩ (Nat.le_of_ble_eq_true rfl) hcc hss (fun H h => h) (fun H H1 N' _ h _ => h) dX9_init_225 rfl rfl (fun N14 h => ?_)
  exact w_vret (Po := fun H => ∃ N : Mem, RM s0 N ∧ Wd Z N H) C hr hQ dX9_init_228 (fun H hW => ⟨N14, h, hW⟩)
