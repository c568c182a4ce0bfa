def LXX (Zx Zm : ZT) (A : Nat → Prop) (X : XT) (b L : Nat) (xv : Nat → Int32) : Prop := IsX Zx ∧ IsM Zm ∧ CX X cL_law RL 4 10 370 ∧ EXA Zx A (xs X) ∧ EXA Zm A (xs X) ∧ va_X b L xv (xs X) (xs X).heap ∧ b < (xs X).heap.size ∧ ¬ A b ∧ (∀ q, AZ Zx q → A q) ∧ (∀ q, AZ Zm q → A q) ∧ (∀ q, AZ Zx q → AZ Zm q → False) ∧ 180 ≤ (xR X).cells ∧ 2338 ≤ (xR X).slots ∧ L ≤ 256
def LPP (Zx Zm : ZT) (M N : Mem) : Heap → Prop := fun H => Wd Zx M H ∧ Wd Zm N H
section RowsL
variable {Pr : Heap → Prop} {A : Nat → Prop} {X : XT} {cc : ByteArray} {own : String} {nL fr lx pc n c0 n0 b L : Nat} {xv : Nat → Int32} {lv : List (Nat × Value)} {rest : List Value}
theorem q_sld {x : Int32} {j : Nat} (hx : x = nI j) (hj : j < L) (hL : L ≤ 256) (C : CX X cc own nL fr lx) (hX : va_X b L xv (xs X) (xs X).heap) (hbl : b < (xs X).heap.size) (hbA : ¬ A b) (d : decode cc pc = .ok (.iaload, 1)) (hn : pc + 1 = n) (k : GW Pr A X c0 n0 n lv (.int (xv j) :: rest)) : GW Pr A X c0 n0 pc lv (.int x :: .ref b :: rest) := by
  subst hn
  subst hx
  intro H locs ls hW hS hl
  have e : (nI j).toNatClampNeg = j := nI_clamp (by omega)
  have := k H locs ls hW hS hl
  rw [← e] at this
  exact va_sld C.1 C.2.1 hX hbl hbA hS (vp_in_nI hj (by omega)) d this
theorem q_slen (C : CX X cc own nL fr lx) (hX : va_X b L xv (xs X) (xs X).heap) (hbl : b < (xs X).heap.size) (hbA : ¬ A b) (d : decode cc pc = .ok (.arraylength, 1)) (hn : pc + 1 = n) (k : GW Pr A X c0 n0 n lv (.int (nI L) :: rest)) : GW Pr A X c0 n0 pc lv (.ref b :: rest) := by
  subst hn
  exact fun H locs ls hW hS hl => va_slen C.1 C.2.1 hX hbl hbA hS d (k H locs ls hW hS hl)
end RowsL
theorem le4 {i L : Nat} (hi : i ≤ 256) (hL : L ≤ 256) (h : ¬ nI L - 4 < nI i) : i + 4 ≤ L := by
  rcases Nat.lt_or_ge L 4 with q | q
  · refine absurd ?_ h
    have e : (nI L - nI 4).toInt = (L : Int) - 4 := pk_sub_toInt (by omega) (by omega)
    have z : nI L - 4 < 0 := Int32.lt_iff_toInt_lt.mpr (by
      show (nI L - nI 4).toInt < (0 : Int32).toInt
      rw [e, show (0 : Int32).toInt = 0 from rfl]
      omega)
    exact Int32.lt_of_lt_of_le z (nI_pos' (by omega))
  · have e : nI L - 4 = nI (L - 4) := pk_sub (b := 4) q
    rw [e] at h
    rcases Nat.lt_or_ge (L - 4) i with q2 | q2
    · exact absurd (nI_lt q2 (by omega)) h
    · omega
set_option maxHeartbeats 4000000 in
set_option maxRecDepth 100000 in
theorem lc_0 {Zx Zm : ZT} {A : Nat → Prop} {X : XT} {b L i T : Nat} {xv : Nat → Int32} {s : ST} {M N : Mem} (W0 : LXX Zx Zm A X b L xv) (hi : i + 4 ≤ L) (J : JX T s) (R : RX s M) (R2 : RM s N) (hT : T + 24 < 2 ^ 20) (ih : ∀ (s' : ST) (M' N' : Mem), JX (T + 24) s' → RX s' M' → RM s' N' → GW (LPP Zx Zm M' N') A X 180 2338 743 [(3, .int (nI i)), (0, .ref b), (1, .ref (zb Zx + 0)), (2, .ref (zb Zm + 0))] []) : GW (LPP Zx Zm M N) A X 180 2338 148 [(3, .int (nI i)), (0, .ref b), (1, .ref (zb Zx + 0)), (2, .ref (zb Zm + 0))] [] := by
  obtain ⟨hZx, hZm, C, Ex, Em, hX, hbl, hbA, hAx, hAm, hd, hcc, hss, hL⟩ := W0
  refine h_aload_n (n := 149) (i := 1) C dL_law_148 rfl 2 rfl rfl ?_
  refine h_aload_n (n := 150) (i := 0) C dL_law_149 rfl 1 rfl rfl ?_
  refine h_iload_n (n := 151) (i := 3) C dL_law_150 rfl 0 rfl rfl ?_
  refine h_iconst (n := 152) (1 : Int32) C dL_law_151 (by decide) rfl ?_
  refine h_iadd (n := 153) C dL_law_152 rfl ?_
  refine q_sld (n := 154) (j := i + 1) (nI_add i 1) (by omega) hL C hX hbl hbA dL_law_153 rfl ?_
  refine q_callVi (n := 157) (kd := 8) (a := 0) (M := M) (As := [.int (xv (i + 1))]) (rest := []) (post := fun r M' => r = (fWrite s (xv (i + 1))).1 ∧ RX (fWrite s (xv (i + 1))).2 M') (Pr1 := fun M' H => LPP Zx Zm M' N H) C Ex hAx (c_NB_write hZx _ (xv (i + 1)) M _ (tx_write (xv (i + 1)) T s M _ J R (fun M' R' => ⟨rfl, R'⟩))) yi_X8_write we_480 rfl (ox_0 hZx) ⟨(Nat.le_of_ble_eq_true rfl), (Nat.le_of_ble_eq_true rfl)⟩ (Nat.le_of_ble_eq_true rfl) hcc hss (fun H h => h.1) (fun H H1 M' h hw hk => ⟨hw, Wd_kept h.2 (fun a ha hm => hk a ha (fun hx => hd a hx hm))⟩) dL_law_154 rfl rfl (fun r M' h => ?_)
  obtain ⟨hr1, R'⟩ := h
  refine h_aload_n (n := 158) (i := 2) C dL_law_157 rfl 3 rfl rfl ?_
  refine h_aload_n (n := 159) (i := 0) C dL_law_158 rfl 1 rfl rfl ?_
  refine h_iload_n (n := 160) (i := 3) C dL_law_159 rfl 0 rfl rfl ?_
  refine h_iconst (n := 161) (1 : Int32) C dL_law_160 (by decide) rfl ?_
  refine h_iadd (n := 162) C dL_law_161 rfl ?_
  refine q_sld (n := 163) (j := i + 1) (nI_add i 1) (by omega) hL C hX hbl hbA dL_law_162 rfl ?_
  refine q_callVi (n := 166) (kd := 9) (a := 0) (M := N) (As := [.int (xv (i + 1))]) (rest := [.int r]) (post := fun r2 N' => r2 = (fWrite s (xv (i + 1))).1 ∧ RM (fWrite s (xv (i + 1))).2 N') (Pr1 := fun N' H => LPP Zx Zm M' N' H) C Em hAm (c_MD_write hZm _ (xv (i + 1)) N _ (ty_write (xv (i + 1)) T s N _ J R2 (fun N' R' => ⟨rfl, R'⟩))) yi_X9_write we_908 rfl (om_0 hZm) ⟨(Nat.le_of_ble_eq_true rfl), (Nat.le_of_ble_eq_true rfl)⟩ (Nat.le_of_ble_eq_true rfl) hcc hss (fun H h => h.2) (fun H H1 N' h hw hk => ⟨Wd_kept h.1 (fun a ha hx => hk a ha (fun hm => hd a hx hm)), hw⟩) dL_law_163 rfl rfl (fun r2 N' h => ?_)
  obtain ⟨hr2, R2'⟩ := h
  refine h_icmp_eq (n := 169) (tgt := 743) C dL_law_166 (by decide) rfl (fun c => ?_) (fun c => absurd (hr1.trans hr2.symm) c)
  exact ih _ M' N' (tj_write (xv (i + 1)) T s J hT) R' R2'
set_option maxHeartbeats 4000000 in
set_option maxRecDepth 100000 in
theorem lc_1 {Zx Zm : ZT} {A : Nat → Prop} {X : XT} {b L i T : Nat} {xv : Nat → Int32} {s : ST} {M N : Mem} (W0 : LXX Zx Zm A X b L xv) (hi : i + 4 ≤ L) (J : JX T s) (R : RX s M) (R2 : RM s N) (hT : T + 24 < 2 ^ 20) (ih : ∀ (s' : ST) (M' N' : Mem), JX (T + 24) s' → RX s' M' → RM s' N' → GW (LPP Zx Zm M' N') A X 180 2338 743 [(3, .int (nI i)), (0, .ref b), (1, .ref (zb Zx + 0)), (2, .ref (zb Zm + 0))] []) : GW (LPP Zx Zm M N) A X 180 2338 171 [(3, .int (nI i)), (0, .ref b), (1, .ref (zb Zx + 0)), (2, .ref (zb Zm + 0))] [] := by
  obtain ⟨hZx, hZm, C, Ex, Em, hX, hbl, hbA, hAx, hAm, hd, hcc, hss, hL⟩ := W0
  refine h_aload_n (n := 172) (i := 1) C dL_law_171 rfl 2 rfl rfl ?_
  refine q_callVi (n := 175) (kd := 8) (a := 0) (M := M) (As := []) (rest := []) (post := fun r M' => r = (fWipe s).1 ∧ RX (fWipe s).2 M') (Pr1 := fun M' H => LPP Zx Zm M' N H) C Ex hAx (c_NB_wipe hZx _ M _ (tx_wipe T s M _ J R (fun M' R' => ⟨rfl, R'⟩))) yi_X8_wipe we_484 rfl (ox_0 hZx) ⟨(Nat.le_of_ble_eq_true rfl), (Nat.le_of_ble_eq_true rfl)⟩ (Nat.le_of_ble_eq_true rfl) hcc hss (fun H h => h.1) (fun H H1 M' h hw hk => ⟨hw, Wd_kept h.2 (fun a ha hm => hk a ha (fun hx => hd a hx hm))⟩) dL_law_172 rfl rfl (fun r M' h => ?_)
  obtain ⟨hr1, R'⟩ := h
  refine h_aload_n (n := 176) (i := 2) C dL_law_175 rfl 3 rfl rfl ?_
  refine q_callVi (n := 179) (kd := 9) (a := 0) (M := N) (As := []) (rest := [.int r]) (post := fun r2 N' => r2 = (fWipe s).1 ∧ RM (fWipe s).2 N') (Pr1 := fun N' H => LPP Zx Zm M' N' H) C Em hAm (c_MD_wipe hZm _ N _ (ty_wipe T s N _ J R2 (fun N' R' => ⟨rfl, R'⟩))) yi_X9_wipe we_917 rfl (om_0 hZm) ⟨(Nat.le_of_ble_eq_true rfl), (Nat.le_of_ble_eq_true rfl)⟩ (Nat.le_of_ble_eq_true rfl) hcc hss (fun H h => h.2) (fun H H1 N' h hw hk => ⟨Wd_kept h.1 (fun a ha hx => hk a ha (fun hm => hd a hx hm)), hw⟩) dL_law_176 rfl rfl (fun r2 N' h => ?_)
  obtain ⟨hr2, R2'⟩ := h
  refine h_icmp_eq (n := 182) (tgt := 743) C dL_law_179 (by decide) rfl (fun c => ?_) (fun c => absurd (hr1.trans hr2.symm) c)
  exact ih _ M' N' (tj_wipe T s J hT) R' R2'
set_option maxHeartbeats 4000000 in
set_option maxRecDepth 100000 in
theorem lc_2 {Zx Zm : ZT} {A : Nat → Prop} {X : XT} {b L i T : Nat} {xv : Nat → Int32} {s : ST} {M N : Mem} (W0 : LXX Zx Zm A X b L xv) (hi : i + 4 ≤ L) (J : JX T s) (R : RX s M) (R2 : RM s N) (hT : T + 24 < 2 ^ 20) (ih : ∀ (s' : ST) (M' N' : Mem), JX (T + 24) s' → RX s' M' → RM s' N' → GW (LPP Zx Zm M' N') A X 180 2338 743 [(3, .int (nI i)), (0, .ref b), (1, .ref (zb Zx + 0)), (2, .ref (zb Zm + 0))] []) : GW (LPP Zx Zm M N) A X 180 2338 184 [(3, .int (nI i)), (0, .ref b), (1, .ref (zb Zx + 0)), (2, .ref (zb Zm + 0))] [] := by
  obtain ⟨hZx, hZm, C, Ex, Em, hX, hbl, hbA, hAx, hAm, hd, hcc, hss, hL⟩ := W0
  refine h_aload_n (n := 185) (i := 1) C dL_law_184 rfl 2 rfl rfl ?_
  refine q_callVi (n := 188) (kd := 8) (a := 0) (M := M) (As := []) (rest := []) (post := fun r M' => r = (fFault s).1 ∧ RX (fFault s).2 M') (Pr1 := fun M' H => LPP Zx Zm M' N H) C Ex hAx (c_NB_fault hZx _ M _ (tx_fault T s M _ J R (fun M' R' => ⟨rfl, R'⟩))) yi_X8_fault we_488 rfl (ox_0 hZx) ⟨(Nat.le_of_ble_eq_true rfl), (Nat.le_of_ble_eq_true rfl)⟩ (Nat.le_of_ble_eq_true rfl) hcc hss (fun H h => h.1) (fun H H1 M' h hw hk => ⟨hw, Wd_kept h.2 (fun a ha hm => hk a ha (fun hx => hd a hx hm))⟩) dL_law_185 rfl rfl (fun r M' h => ?_)
  obtain ⟨hr1, R'⟩ := h
  refine h_aload_n (n := 189) (i := 2) C dL_law_188 rfl 3 rfl rfl ?_
  refine q_callVi (n := 192) (kd := 9) (a := 0) (M := N) (As := []) (rest := [.int r]) (post := fun r2 N' => r2 = (fFault s).1 ∧ RM (fFault s).2 N') (Pr1 := fun N' H => LPP Zx Zm M' N' H) C Em hAm (c_MD_fault hZm _ N _ (ty_fault T s N _ J R2 (fun N' R' => ⟨rfl, R'⟩))) yi_X9_fault we_921 rfl (om_0 hZm) ⟨(Nat.le_of_ble_eq_true rfl), (Nat.le_of_ble_eq_true rfl)⟩ (Nat.le_of_ble_eq_true rfl) hcc hss (fun H h => h.2) (fun H H1 N' h hw hk => ⟨Wd_kept h.1 (fun a ha hx => hk a ha (fun hm => hd a hx hm)), hw⟩) dL_law_189 rfl rfl (fun r2 N' h => ?_)
  obtain ⟨hr2, R2'⟩ := h
  refine h_icmp_eq (n := 195) (tgt := 743) C dL_law_192 (by decide) rfl (fun c => ?_) (fun c => absurd (hr1.trans hr2.symm) c)
  exact ih _ M' N' (tj_fault T s J hT) R' R2'
set_option maxHeartbeats 4000000 in
set_option maxRecDepth 100000 in
theorem lc_3 {Zx Zm : ZT} {A : Nat → Prop} {X : XT} {b L i T : Nat} {xv : Nat → Int32} {s : ST} {M N : Mem} (W0 : LXX Zx Zm A X b L xv) (hi : i + 4 ≤ L) (J : JX T s) (R : RX s M) (R2 : RM s N) (hT : T + 24 < 2 ^ 20) (ih : ∀ (s' : ST) (M' N' : Mem), JX (T + 24) s' → RX s' M' → RM s' N' → GW (LPP Zx Zm M' N') A X 180 2338 743 [(3, .int (nI i)), (0, .ref b), (1, .ref (zb Zx + 0)), (2, .ref (zb Zm + 0))] []) : GW (LPP Zx Zm M N) A X 180 2338 197 [(3, .int (nI i)), (0, .ref b), (1, .ref (zb Zx + 0)), (2, .ref (zb Zm + 0))] [] := by
  obtain ⟨hZx, hZm, C, Ex, Em, hX, hbl, hbA, hAx, hAm, hd, hcc, hss, hL⟩ := W0
  refine h_aload_n (n := 198) (i := 1) C dL_law_197 rfl 2 rfl rfl ?_
  refine q_callVi (n := 201) (kd := 8) (a := 0) (M := M) (As := []) (rest := []) (post := fun r M' => r = (fLay s).1 ∧ RX (fLay s).2 M') (Pr1 := fun M' H => LPP Zx Zm M' N H) C Ex hAx (c_NB_lay hZx _ M _ (tx_lay T s M _ J R (fun M' R' => ⟨rfl, R'⟩))) yi_X8_lay we_492 rfl (ox_0 hZx) ⟨(Nat.le_of_ble_eq_true rfl), (Nat.le_of_ble_eq_true rfl)⟩ (Nat.le_of_ble_eq_true rfl) hcc hss (fun H h => h.1) (fun H H1 M' h hw hk => ⟨hw, Wd_kept h.2 (fun a ha hm => hk a ha (fun hx => hd a hx hm))⟩) dL_law_198 rfl rfl (fun r M' h => ?_)
  obtain ⟨hr1, R'⟩ := h
  refine h_aload_n (n := 202) (i := 2) C dL_law_201 rfl 3 rfl rfl ?_
  refine q_callVi (n := 205) (kd := 9) (a := 0) (M := N) (As := []) (rest := [.int r]) (post := fun r2 N' => r2 = (fLay s).1 ∧ RM (fLay s).2 N') (Pr1 := fun N' H => LPP Zx Zm M' N' H) C Em hAm (c_MD_lay hZm _ N _ (ty_lay T s N _ J R2 (fun N' R' => ⟨rfl, R'⟩))) yi_X9_lay we_951 rfl (om_0 hZm) ⟨(Nat.le_of_ble_eq_true rfl), (Nat.le_of_ble_eq_true rfl)⟩ (Nat.le_of_ble_eq_true rfl) hcc hss (fun H h => h.2) (fun H H1 N' h hw hk => ⟨Wd_kept h.1 (fun a ha hx => hk a ha (fun hm => hd a hx hm)), hw⟩) dL_law_202 rfl rfl (fun r2 N' h => ?_)
  obtain ⟨hr2, R2'⟩ := h
  refine h_icmp_eq (n := 208) (tgt := 743) C dL_law_205 (by decide) rfl (fun c => ?_) (fun c => absurd (hr1.trans hr2.symm) c)
  exact ih _ M' N' (tj_lay T s J hT) R' R2'
set_option maxHeartbeats 4000000 in
set_option maxRecDepth 100000 in
theorem lc_4 {Zx Zm : ZT} {A : Nat → Prop} {X : XT} {b L i T : Nat} {xv : Nat → Int32} {s : ST} {M N : Mem} (W0 : LXX Zx Zm A X b L xv) (hi : i + 4 ≤ L) (J : JX T s) (R : RX s M) (R2 : RM s N) (hT : T + 24 < 2 ^ 20) (ih : ∀ (s' : ST) (M' N' : Mem), JX (T + 24) s' → RX s' M' → RM s' N' → GW (LPP Zx Zm M' N') A X 180 2338 743 [(3, .int (nI i)), (0, .ref b), (1, .ref (zb Zx + 0)), (2, .ref (zb Zm + 0))] []) : GW (LPP Zx Zm M N) A X 180 2338 210 [(3, .int (nI i)), (0, .ref b), (1, .ref (zb Zx + 0)), (2, .ref (zb Zm + 0))] [] := by
  obtain ⟨hZx, hZm, C, Ex, Em, hX, hbl, hbA, hAx, hAm, hd, hcc, hss, hL⟩ := W0
  refine h_aload_n (n := 211) (i := 1) C dL_law_210 rfl 2 rfl rfl ?_
  refine h_aload_n (n := 212) (i := 0) C dL_law_211 rfl 1 rfl rfl ?_
  refine h_iload_n (n := 213) (i := 3) C dL_law_212 rfl 0 rfl rfl ?_
  refine h_iconst (n := 214) (1 : Int32) C dL_law_213 (by decide) rfl ?_
  refine h_iadd (n := 215) C dL_law_214 rfl ?_
  refine q_sld (n := 216) (j := i + 1) (nI_add i 1) (by omega) hL C hX hbl hbA dL_law_215 rfl ?_
  refine h_aload_n (n := 217) (i := 0) C dL_law_216 rfl 1 rfl rfl ?_
  refine h_iload_n (n := 218) (i := 3) C dL_law_217 rfl 0 rfl rfl ?_
  refine h_iconst (n := 219) (2 : Int32) C dL_law_218 (by decide) rfl ?_
  refine h_iadd (n := 220) C dL_law_219 rfl ?_
  refine q_sld (n := 221) (j := i + 2) (nI_add i 2) (by omega) hL C hX hbl hbA dL_law_220 rfl ?_
  refine q_callVi (n := 224) (kd := 8) (a := 0) (M := M) (As := [.int (xv (i + 1)), .int (xv (i + 2))]) (rest := []) (post := fun r M' => r = (fGuest s (xv (i + 1)) (xv (i + 2))).1 ∧ RX (fGuest s (xv (i + 1)) (xv (i + 2))).2 M') (Pr1 := fun M' H => LPP Zx Zm M' N H) C Ex hAx (c_NB_guest hZx _ (xv (i + 1)) (xv (i + 2)) M _ (tx_guest (xv (i + 1)) (xv (i + 2)) T s M _ J R (fun M' R' => ⟨rfl, R'⟩))) yi_X8_guest we_496 rfl (ox_0 hZx) ⟨(Nat.le_of_ble_eq_true rfl), (Nat.le_of_ble_eq_true rfl)⟩ (Nat.le_of_ble_eq_true rfl) hcc hss (fun H h => h.1) (fun H H1 M' h hw hk => ⟨hw, Wd_kept h.2 (fun a ha hm => hk a ha (fun hx => hd a hx hm))⟩) dL_law_221 rfl rfl (fun r M' h => ?_)
  obtain ⟨hr1, R'⟩ := h
  refine h_aload_n (n := 225) (i := 2) C dL_law_224 rfl 3 rfl rfl ?_
  refine h_aload_n (n := 226) (i := 0) C dL_law_225 rfl 1 rfl rfl ?_
  refine h_iload_n (n := 227) (i := 3) C dL_law_226 rfl 0 rfl rfl ?_
  refine h_iconst (n := 228) (1 : Int32) C dL_law_227 (by decide) rfl ?_
  refine h_iadd (n := 229) C dL_law_228 rfl ?_
  refine q_sld (n := 230) (j := i + 1) (nI_add i 1) (by omega) hL C hX hbl hbA dL_law_229 rfl ?_
  refine h_aload_n (n := 231) (i := 0) C dL_law_230 rfl 1 rfl rfl ?_
  refine h_iload_n (n := 232) (i := 3) C dL_law_231 rfl 0 rfl rfl ?_
  refine h_iconst (n := 233) (2 : Int32) C dL_law_232 (by decide) rfl ?_
  refine h_iadd (n := 234) C dL_law_233 rfl ?_
  refine q_sld (n := 235) (j := i + 2) (nI_add i 2) (by omega) hL C hX hbl hbA dL_law_234 rfl ?_
  refine q_callVi (n := 238) (kd := 9) (a := 0) (M := N) (As := [.int (xv (i + 1)), .int (xv (i + 2))]) (rest := [.int r]) (post := fun r2 N' => r2 = (fGuest s (xv (i + 1)) (xv (i + 2))).1 ∧ RM (fGuest s (xv (i + 1)) (xv (i + 2))).2 N') (Pr1 := fun N' H => LPP Zx Zm M' N' H) C Em hAm (c_MD_guest hZm _ (xv (i + 1)) (xv (i + 2)) N _ (ty_guest (xv (i + 1)) (xv (i + 2)) T s N _ J R2 (fun N' R' => ⟨rfl, R'⟩))) yi_X9_guest we_955 rfl (om_0 hZm) ⟨(Nat.le_of_ble_eq_true rfl), (Nat.le_of_ble_eq_true rfl)⟩ (Nat.le_of_ble_eq_true rfl) hcc hss (fun H h => h.2) (fun H H1 N' h hw hk => ⟨Wd_kept h.1 (fun a ha hx => hk a ha (fun hm => hd a hx hm)), hw⟩) dL_law_235 rfl rfl (fun r2 N' h => ?_)
  obtain ⟨hr2, R2'⟩ := h
  refine h_icmp_eq (n := 241) (tgt := 743) C dL_law_238 (by decide) rfl (fun c => ?_) (fun c => absurd (hr1.trans hr2.symm) c)
  exact ih _ M' N' (tj_guest (xv (i + 1)) (xv (i + 2)) T s J hT) R' R2'
set_option maxHeartbeats 4000000 in
set_option maxRecDepth 100000 in
theorem lc_5 {Zx Zm : ZT} {A : Nat → Prop} {X : XT} {b L i T : Nat} {xv : Nat → Int32} {s : ST} {M N : Mem} (W0 : LXX Zx Zm A X b L xv) (hi : i + 4 ≤ L) (J : JX T s) (R : RX s M) (R2 : RM s N) (hT : T + 24 < 2 ^ 20) (ih : ∀ (s' : ST) (M' N' : Mem), JX (T + 24) s' → RX s' M' → RM s' N' → GW (LPP Zx Zm M' N') A X 180 2338 743 [(3, .int (nI i)), (0, .ref b), (1, .ref (zb Zx + 0)), (2, .ref (zb Zm + 0))] []) : GW (LPP Zx Zm M N) A X 180 2338 243 [(3, .int (nI i)), (0, .ref b), (1, .ref (zb Zx + 0)), (2, .ref (zb Zm + 0))] [] := by
  obtain ⟨hZx, hZm, C, Ex, Em, hX, hbl, hbA, hAx, hAm, hd, hcc, hss, hL⟩ := W0
  refine h_aload_n (n := 244) (i := 1) C dL_law_243 rfl 2 rfl rfl ?_
  refine h_aload_n (n := 245) (i := 0) C dL_law_244 rfl 1 rfl rfl ?_
  refine h_iload_n (n := 246) (i := 3) C dL_law_245 rfl 0 rfl rfl ?_
  refine h_iconst (n := 247) (1 : Int32) C dL_law_246 (by decide) rfl ?_
  refine h_iadd (n := 248) C dL_law_247 rfl ?_
  refine q_sld (n := 249) (j := i + 1) (nI_add i 1) (by omega) hL C hX hbl hbA dL_law_248 rfl ?_
  refine h_aload_n (n := 250) (i := 0) C dL_law_249 rfl 1 rfl rfl ?_
  refine h_iload_n (n := 251) (i := 3) C dL_law_250 rfl 0 rfl rfl ?_
  refine h_iconst (n := 252) (2 : Int32) C dL_law_251 (by decide) rfl ?_
  refine h_iadd (n := 253) C dL_law_252 rfl ?_
  refine q_sld (n := 254) (j := i + 2) (nI_add i 2) (by omega) hL C hX hbl hbA dL_law_253 rfl ?_
  refine q_callVi (n := 257) (kd := 8) (a := 0) (M := M) (As := [.int (xv (i + 1)), .int (xv (i + 2))]) (rest := []) (post := fun r M' => r = (fState s (xv (i + 1)) (xv (i + 2))).1 ∧ RX (fState s (xv (i + 1)) (xv (i + 2))).2 M') (Pr1 := fun M' H => LPP Zx Zm M' N H) C Ex hAx (c_NB_state hZx _ (xv (i + 1)) (xv (i + 2)) M _ (tx_state (xv (i + 1)) (xv (i + 2)) T s M _ J R (fun M' R' => ⟨rfl, R'⟩))) yi_X8_state we_504 rfl (ox_0 hZx) ⟨(Nat.le_of_ble_eq_true rfl), (Nat.le_of_ble_eq_true rfl)⟩ (Nat.le_of_ble_eq_true rfl) hcc hss (fun H h => h.1) (fun H H1 M' h hw hk => ⟨hw, Wd_kept h.2 (fun a ha hm => hk a ha (fun hx => hd a hx hm))⟩) dL_law_254 rfl rfl (fun r M' h => ?_)
  obtain ⟨hr1, R'⟩ := h
  refine h_aload_n (n := 258) (i := 2) C dL_law_257 rfl 3 rfl rfl ?_
  refine h_aload_n (n := 259) (i := 0) C dL_law_258 rfl 1 rfl rfl ?_
  refine h_iload_n (n := 260) (i := 3) C dL_law_259 rfl 0 rfl rfl ?_
  refine h_iconst (n := 261) (1 : Int32) C dL_law_260 (by decide) rfl ?_
  refine h_iadd (n := 262) C dL_law_261 rfl ?_
  refine q_sld (n := 263) (j := i + 1) (nI_add i 1) (by omega) hL C hX hbl hbA dL_law_262 rfl ?_
  refine h_aload_n (n := 264) (i := 0) C dL_law_263 rfl 1 rfl rfl ?_
  refine h_iload_n (n := 265) (i := 3) C dL_law_264 rfl 0 rfl rfl ?_
  refine h_iconst (n := 266) (2 : Int32) C dL_law_265 (by decide) rfl ?_
  refine h_iadd (n := 267) C dL_law_266 rfl ?_
  refine q_sld (n := 268) (j := i + 2) (nI_add i 2) (by omega) hL C hX hbl hbA dL_law_267 rfl ?_
  refine q_callVi (n := 271) (kd := 9) (a := 0) (M := N) (As := [.int (xv (i + 1)), .int (xv (i + 2))]) (rest := [.int r]) (post := fun r2 N' => r2 = (fState s (xv (i + 1)) (xv (i + 2))).1 ∧ RM (fState s (xv (i + 1)) (xv (i + 2))).2 N') (Pr1 := fun N' H => LPP Zx Zm M' N' H) C Em hAm (c_MD_state hZm _ (xv (i + 1)) (xv (i + 2)) N _ (ty_state (xv (i + 1)) (xv (i + 2)) T s N _ J R2 (fun N' R' => ⟨rfl, R'⟩))) yi_X9_state we_963 rfl (om_0 hZm) ⟨(Nat.le_of_ble_eq_true rfl), (Nat.le_of_ble_eq_true rfl)⟩ (Nat.le_of_ble_eq_true rfl) hcc hss (fun H h => h.2) (fun H H1 N' h hw hk => ⟨Wd_kept h.1 (fun a ha hx => hk a ha (fun hm => hd a hx hm)), hw⟩) dL_law_268 rfl rfl (fun r2 N' h => ?_)
  obtain ⟨hr2, R2'⟩ := h
  refine h_icmp_eq (n := 274) (tgt := 743) C dL_law_271 (by decide) rfl (fun c => ?_) (fun c => absurd (hr1.trans hr2.symm) c)
  exact ih _ M' N' (tj_state (xv (i + 1)) (xv (i + 2)) T s J hT) R' R2'
set_option maxHeartbeats 4000000 in
set_option maxRecDepth 100000 in
theorem lc_6 {Zx Zm : ZT} {A : Nat → Prop} {X : XT} {b L i T : Nat} {xv : Nat → Int32} {s : ST} {M N : Mem} (W0 : LXX Zx Zm A X b L xv) (hi : i + 4 ≤ L) (J : JX T s) (R : RX s M) (R2 : RM s N) (hT : T + 24 < 2 ^ 20) (ih : ∀ (s' : ST) (M' N' : Mem), JX (T + 24) s' → RX s' M' → RM s' N' → GW (LPP Zx Zm M' N') A X 180 2338 743 [(3, .int (nI i)), (0, .ref b), (1, .ref (zb Zx + 0)), (2, .ref (zb Zm + 0))] []) : GW (LPP Zx Zm M N) A X 180 2338 276 [(3, .int (nI i)), (0, .ref b), (1, .ref (zb Zx + 0)), (2, .ref (zb Zm + 0))] [] := by
  obtain ⟨hZx, hZm, C, Ex, Em, hX, hbl, hbA, hAx, hAm, hd, hcc, hss, hL⟩ := W0
  refine h_aload_n (n := 277) (i := 1) C dL_law_276 rfl 2 rfl rfl ?_
  refine h_aload_n (n := 278) (i := 0) C dL_law_277 rfl 1 rfl rfl ?_
  refine h_iload_n (n := 279) (i := 3) C dL_law_278 rfl 0 rfl rfl ?_
  refine h_iconst (n := 280) (1 : Int32) C dL_law_279 (by decide) rfl ?_
  refine h_iadd (n := 281) C dL_law_280 rfl ?_
  refine q_sld (n := 282) (j := i + 1) (nI_add i 1) (by omega) hL C hX hbl hbA dL_law_281 rfl ?_
  refine q_callVi (n := 285) (kd := 8) (a := 0) (M := M) (As := [.int (xv (i + 1))]) (rest := []) (post := fun r M' => r = (fPass s (xv (i + 1))).1 ∧ RX (fPass s (xv (i + 1))).2 M') (Pr1 := fun M' H => LPP Zx Zm M' N H) C Ex hAx (c_NB_pass hZx _ (xv (i + 1)) M _ (tx_pass (xv (i + 1)) T s M _ J R (fun M' R' => ⟨rfl, R'⟩))) yi_X8_pass we_508 rfl (ox_0 hZx) ⟨(Nat.le_of_ble_eq_true rfl), (Nat.le_of_ble_eq_true rfl)⟩ (Nat.le_of_ble_eq_true rfl) hcc hss (fun H h => h.1) (fun H H1 M' h hw hk => ⟨hw, Wd_kept h.2 (fun a ha hm => hk a ha (fun hx => hd a hx hm))⟩) dL_law_282 rfl rfl (fun r M' h => ?_)
  obtain ⟨hr1, R'⟩ := h
  refine h_aload_n (n := 286) (i := 2) C dL_law_285 rfl 3 rfl rfl ?_
  refine h_aload_n (n := 287) (i := 0) C dL_law_286 rfl 1 rfl rfl ?_
  refine h_iload_n (n := 288) (i := 3) C dL_law_287 rfl 0 rfl rfl ?_
  refine h_iconst (n := 289) (1 : Int32) C dL_law_288 (by decide) rfl ?_
  refine h_iadd (n := 290) C dL_law_289 rfl ?_
  refine q_sld (n := 291) (j := i + 1) (nI_add i 1) (by omega) hL C hX hbl hbA dL_law_290 rfl ?_
  refine q_callVi (n := 294) (kd := 9) (a := 0) (M := N) (As := [.int (xv (i + 1))]) (rest := [.int r]) (post := fun r2 N' => r2 = (fPass s (xv (i + 1))).1 ∧ RM (fPass s (xv (i + 1))).2 N') (Pr1 := fun N' H => LPP Zx Zm M' N' H) C Em hAm (c_MD_pass hZm _ (xv (i + 1)) N _ (ty_pass (xv (i + 1)) T s N _ J R2 (fun N' R' => ⟨rfl, R'⟩))) yi_X9_pass we_968 rfl (om_0 hZm) ⟨(Nat.le_of_ble_eq_true rfl), (Nat.le_of_ble_eq_true rfl)⟩ (Nat.le_of_ble_eq_true rfl) hcc hss (fun H h => h.2) (fun H H1 N' h hw hk => ⟨Wd_kept h.1 (fun a ha hx => hk a ha (fun hm => hd a hx hm)), hw⟩) dL_law_291 rfl rfl (fun r2 N' h => ?_)
  obtain ⟨hr2, R2'⟩ := h
  refine h_icmp_eq (n := 297) (tgt := 743) C dL_law_294 (by decide) rfl (fun c => ?_) (fun c => absurd (hr1.trans hr2.symm) c)
  exact ih _ M' N' (tj_pass (xv (i + 1)) T s J hT) R' R2'
set_option maxHeartbeats 4000000 in
set_option maxRecDepth 100000 in
theorem lc_7 {Zx Zm : ZT} {A : Nat → Prop} {X : XT} {b L i T : Nat} {xv : Nat → Int32} {s : ST} {M N : Mem} (W0 : LXX Zx Zm A X b L xv) (hi : i + 4 ≤ L) (J : JX T s) (R : RX s M) (R2 : RM s N) (hT : T + 24 < 2 ^ 20) (ih : ∀ (s' : ST) (M' N' : Mem), JX (T + 24) s' → RX s' M' → RM s' N' → GW (LPP Zx Zm M' N') A X 180 2338 743 [(3, .int (nI i)), (0, .ref b), (1, .ref (zb Zx + 0)), (2, .ref (zb Zm + 0))] []) : GW (LPP Zx Zm M N) A X 180 2338 299 [(3, .int (nI i)), (0, .ref b), (1, .ref (zb Zx + 0)), (2, .ref (zb Zm + 0))] [] := by
  obtain ⟨hZx, hZm, C, Ex, Em, hX, hbl, hbA, hAx, hAm, hd, hcc, hss, hL⟩ := W0
  refine h_aload_n (n := 300) (i := 1) C dL_law_299 rfl 2 rfl rfl ?_
  refine h_aload_n (n := 301) (i := 0) C dL_law_300 rfl 1 rfl rfl ?_
  refine h_iload_n (n := 302) (i := 3) C dL_law_301 rfl 0 rfl rfl ?_
  refine h_iconst (n := 303) (1 : Int32) C dL_law_302 (by decide) rfl ?_
  refine h_iadd (n := 304) C dL_law_303 rfl ?_
  refine q_sld (n := 305) (j := i + 1) (nI_add i 1) (by omega) hL C hX hbl hbA dL_law_304 rfl ?_
  refine h_aload_n (n := 306) (i := 0) C dL_law_305 rfl 1 rfl rfl ?_
  refine h_iload_n (n := 307) (i := 3) C dL_law_306 rfl 0 rfl rfl ?_
  refine h_iconst (n := 308) (2 : Int32) C dL_law_307 (by decide) rfl ?_
  refine h_iadd (n := 309) C dL_law_308 rfl ?_
  refine q_sld (n := 310) (j := i + 2) (nI_add i 2) (by omega) hL C hX hbl hbA dL_law_309 rfl ?_
  refine q_callVi (n := 313) (kd := 8) (a := 0) (M := M) (As := [.int (xv (i + 1)), .int (xv (i + 2))]) (rest := []) (post := fun r M' => r = (fBook s (xv (i + 1)) (xv (i + 2))).1 ∧ RX (fBook s (xv (i + 1)) (xv (i + 2))).2 M') (Pr1 := fun M' H => LPP Zx Zm M' N H) C Ex hAx (c_NB_book hZx _ (xv (i + 1)) (xv (i + 2)) M _ (tx_book (xv (i + 1)) (xv (i + 2)) T s M _ J R (fun M' R' => ⟨rfl, R'⟩))) yi_X8_book we_550 rfl (ox_0 hZx) ⟨(Nat.le_of_ble_eq_true rfl), (Nat.le_of_ble_eq_true rfl)⟩ (Nat.le_of_ble_eq_true rfl) hcc hss (fun H h => h.1) (fun H H1 M' h hw hk => ⟨hw, Wd_kept h.2 (fun a ha hm => hk a ha (fun hx => hd a hx hm))⟩) dL_law_310 rfl rfl (fun r M' h => ?_)
  obtain ⟨hr1, R'⟩ := h
  refine h_aload_n (n := 314) (i := 2) C dL_law_313 rfl 3 rfl rfl ?_
  refine h_aload_n (n := 315) (i := 0) C dL_law_314 rfl 1 rfl rfl ?_
  refine h_iload_n (n := 316) (i := 3) C dL_law_315 rfl 0 rfl rfl ?_
  refine h_iconst (n := 317) (1 : Int32) C dL_law_316 (by decide) rfl ?_
  refine h_iadd (n := 318) C dL_law_317 rfl ?_
  refine q_sld (n := 319) (j := i + 1) (nI_add i 1) (by omega) hL C hX hbl hbA dL_law_318 rfl ?_
  refine h_aload_n (n := 320) (i := 0) C dL_law_319 rfl 1 rfl rfl ?_
  refine h_iload_n (n := 321) (i := 3) C dL_law_320 rfl 0 rfl rfl ?_
  refine h_iconst (n := 322) (2 : Int32) C dL_law_321 (by decide) rfl ?_
  refine h_iadd (n := 323) C dL_law_322 rfl ?_
  refine q_sld (n := 324) (j := i + 2) (nI_add i 2) (by omega) hL C hX hbl hbA dL_law_323 rfl ?_
  refine q_callVi (n := 327) (kd := 9) (a := 0) (M := N) (As := [.int (xv (i + 1)), .int (xv (i + 2))]) (rest := [.int r]) (post := fun r2 N' => r2 = (fBook s (xv (i + 1)) (xv (i + 2))).1 ∧ RM (fBook s (xv (i + 1)) (xv (i + 2))).2 N') (Pr1 := fun N' H => LPP Zx Zm M' N' H) C Em hAm (c_MD_book hZm _ (xv (i + 1)) (xv (i + 2)) N _ (ty_book (xv (i + 1)) (xv (i + 2)) T s N _ J R2 (fun N' R' => ⟨rfl, R'⟩))) yi_X9_book we_1004 rfl (om_0 hZm) ⟨(Nat.le_of_ble_eq_true rfl), (Nat.le_of_ble_eq_true rfl)⟩ (Nat.le_of_ble_eq_true rfl) hcc hss (fun H h => h.2) (fun H H1 N' h hw hk => ⟨Wd_kept h.1 (fun a ha hx => hk a ha (fun hm => hd a hx hm)), hw⟩) dL_law_324 rfl rfl (fun r2 N' h => ?_)
  obtain ⟨hr2, R2'⟩ := h
  refine h_icmp_eq (n := 330) (tgt := 743) C dL_law_327 (by decide) rfl (fun c => ?_) (fun c => absurd (hr1.trans hr2.symm) c)
  exact ih _ M' N' (tj_book (xv (i + 1)) (xv (i + 2)) T s J hT) R' R2'
set_option maxHeartbeats 4000000 in
set_option maxRecDepth 100000 in
theorem lc_8 {Zx Zm : ZT} {A : Nat → Prop} {X : XT} {b L i T : Nat} {xv : Nat → Int32} {s : ST} {M N : Mem} (W0 : LXX Zx Zm A X b L xv) (hi : i + 4 ≤ L) (J : JX T s) (R : RX s M) (R2 : RM s N) (hT : T + 24 < 2 ^ 20) (ih : ∀ (s' : ST) (M' N' : Mem), JX (T + 24) s' → RX s' M' → RM s' N' → GW (LPP Zx Zm M' N') A X 180 2338 743 [(3, .int (nI i)), (0, .ref b), (1, .ref (zb Zx + 0)), (2, .ref (zb Zm + 0))] []) : GW (LPP Zx Zm M N) A X 180 2338 332 [(3, .int (nI i)), (0, .ref b), (1, .ref (zb Zx + 0)), (2, .ref (zb Zm + 0))] [] := by
  obtain ⟨hZx, hZm, C, Ex, Em, hX, hbl, hbA, hAx, hAm, hd, hcc, hss, hL⟩ := W0
  refine h_aload_n (n := 333) (i := 1) C dL_law_332 rfl 2 rfl rfl ?_
  refine h_aload_n (n := 334) (i := 0) C dL_law_333 rfl 1 rfl rfl ?_
  refine h_iload_n (n := 335) (i := 3) C dL_law_334 rfl 0 rfl rfl ?_
  refine h_iconst (n := 336) (1 : Int32) C dL_law_335 (by decide) rfl ?_
  refine h_iadd (n := 337) C dL_law_336 rfl ?_
  refine q_sld (n := 338) (j := i + 1) (nI_add i 1) (by omega) hL C hX hbl hbA dL_law_337 rfl ?_
  refine q_callVi (n := 341) (kd := 8) (a := 0) (M := M) (As := [.int (xv (i + 1))]) (rest := []) (post := fun r M' => r = (fCall s (xv (i + 1))).1 ∧ RX (fCall s (xv (i + 1))).2 M') (Pr1 := fun M' H => LPP Zx Zm M' N H) C Ex hAx (c_NB_call hZx _ (xv (i + 1)) M _ (tx_call (xv (i + 1)) T s M _ J R (fun M' R' => ⟨rfl, R'⟩))) yi_X8_call we_563 rfl (ox_0 hZx) ⟨(Nat.le_of_ble_eq_true rfl), (Nat.le_of_ble_eq_true rfl)⟩ (Nat.le_of_ble_eq_true rfl) hcc hss (fun H h => h.1) (fun H H1 M' h hw hk => ⟨hw, Wd_kept h.2 (fun a ha hm => hk a ha (fun hx => hd a hx hm))⟩) dL_law_338 rfl rfl (fun r M' h => ?_)
  obtain ⟨hr1, R'⟩ := h
  refine h_aload_n (n := 342) (i := 2) C dL_law_341 rfl 3 rfl rfl ?_
  refine h_aload_n (n := 343) (i := 0) C dL_law_342 rfl 1 rfl rfl ?_
  refine h_iload_n (n := 344) (i := 3) C dL_law_343 rfl 0 rfl rfl ?_
  refine h_iconst (n := 345) (1 : Int32) C dL_law_344 (by decide) rfl ?_
  refine h_iadd (n := 346) C dL_law_345 rfl ?_
  refine q_sld (n := 347) (j := i + 1) (nI_add i 1) (by omega) hL C hX hbl hbA dL_law_346 rfl ?_
  refine q_callVi (n := 350) (kd := 9) (a := 0) (M := N) (As := [.int (xv (i + 1))]) (rest := [.int r]) (post := fun r2 N' => r2 = (fCall s (xv (i + 1))).1 ∧ RM (fCall s (xv (i + 1))).2 N') (Pr1 := fun N' H => LPP Zx Zm M' N' H) C Em hAm (c_MD_call hZm _ (xv (i + 1)) N _ (ty_call (xv (i + 1)) T s N _ J R2 (fun N' R' => ⟨rfl, R'⟩))) yi_X9_call we_1013 rfl (om_0 hZm) ⟨(Nat.le_of_ble_eq_true rfl), (Nat.le_of_ble_eq_true rfl)⟩ (Nat.le_of_ble_eq_true rfl) hcc hss (fun H h => h.2) (fun H H1 N' h hw hk => ⟨Wd_kept h.1 (fun a ha hx => hk a ha (fun hm => hd a hx hm)), hw⟩) dL_law_347 rfl rfl (fun r2 N' h => ?_)
  obtain ⟨hr2, R2'⟩ := h
  refine h_icmp_eq (n := 353) (tgt := 743) C dL_law_350 (by decide) rfl (fun c => ?_) (fun c => absurd (hr1.trans hr2.symm) c)
  exact ih _ M' N' (tj_call (xv (i + 1)) T s J hT) R' R2'
set_option maxHeartbeats 4000000 in
set_option maxRecDepth 100000 in
theorem lc_9 {Zx Zm : ZT} {A : Nat → Prop} {X : XT} {b L i T : Nat} {xv : Nat → Int32} {s : ST} {M N : Mem} (W0 : LXX Zx Zm A X b L xv) (hi : i + 4 ≤ L) (J : JX T s) (R : RX s M) (R2 : RM s N) (hT : T + 24 < 2 ^ 20) (ih : ∀ (s' : ST) (M' N' : Mem), JX (T + 24) s' → RX s' M' → RM s' N' → GW (LPP Zx Zm M' N') A X 180 2338 743 [(3, .int (nI i)), (0, .ref b), (1, .ref (zb Zx + 0)), (2, .ref (zb Zm + 0))] []) : GW (LPP Zx Zm M N) A X 180 2338 355 [(3, .int (nI i)), (0, .ref b), (1, .ref (zb Zx + 0)), (2, .ref (zb Zm + 0))] [] := by
  obtain ⟨hZx, hZm, C, Ex, Em, hX, hbl, hbA, hAx, hAm, hd, hcc, hss, hL⟩ := W0
  refine h_aload_n (n := 356) (i := 1) C dL_law_355 rfl 2 rfl rfl ?_
  refine h_aload_n (n := 357) (i := 0) C dL_law_356 rfl 1 rfl rfl ?_
  refine h_iload_n (n := 358) (i := 3) C dL_law_357 rfl 0 rfl rfl ?_
  refine h_iconst (n := 359) (1 : Int32) C dL_law_358 (by decide) rfl ?_
  refine h_iadd (n := 360) C dL_law_359 rfl ?_
  refine q_sld (n := 361) (j := i + 1) (nI_add i 1) (by omega) hL C hX hbl hbA dL_law_360 rfl ?_
  refine h_aload_n (n := 362) (i := 0) C dL_law_361 rfl 1 rfl rfl ?_
  refine h_iload_n (n := 363) (i := 3) C dL_law_362 rfl 0 rfl rfl ?_
  refine h_iconst (n := 364) (2 : Int32) C dL_law_363 (by decide) rfl ?_
  refine h_iadd (n := 365) C dL_law_364 rfl ?_
  refine q_sld (n := 366) (j := i + 2) (nI_add i 2) (by omega) hL C hX hbl hbA dL_law_365 rfl ?_
  refine q_callVi (n := 369) (kd := 8) (a := 0) (M := M) (As := [.int (xv (i + 1)), .int (xv (i + 2))]) (rest := []) (post := fun r M' => r = (fChange s (xv (i + 1)) (xv (i + 2))).1 ∧ RX (fChange s (xv (i + 1)) (xv (i + 2))).2 M') (Pr1 := fun M' H => LPP Zx Zm M' N H) C Ex hAx (c_NB_change hZx _ (xv (i + 1)) (xv (i + 2)) M _ (tx_change (xv (i + 1)) (xv (i + 2)) T s M _ J R (fun M' R' => ⟨rfl, R'⟩))) yi_X8_change we_575 rfl (ox_0 hZx) ⟨(Nat.le_of_ble_eq_true rfl), (Nat.le_of_ble_eq_true rfl)⟩ (Nat.le_of_ble_eq_true rfl) hcc hss (fun H h => h.1) (fun H H1 M' h hw hk => ⟨hw, Wd_kept h.2 (fun a ha hm => hk a ha (fun hx => hd a hx hm))⟩) dL_law_366 rfl rfl (fun r M' h => ?_)
  obtain ⟨hr1, R'⟩ := h
  refine h_aload_n (n := 370) (i := 2) C dL_law_369 rfl 3 rfl rfl ?_
  refine h_aload_n (n := 371) (i := 0) C dL_law_370 rfl 1 rfl rfl ?_
  refine h_iload_n (n := 372) (i := 3) C dL_law_371 rfl 0 rfl rfl ?_
  refine h_iconst (n := 373) (1 : Int32) C dL_law_372 (by decide) rfl ?_
  refine h_iadd (n := 374) C dL_law_373 rfl ?_
  refine q_sld (n := 375) (j := i + 1) (nI_add i 1) (by omega) hL C hX hbl hbA dL_law_374 rfl ?_
  refine h_aload_n (n := 376) (i := 0) C dL_law_375 rfl 1 rfl rfl ?_
  refine h_iload_n (n := 377) (i := 3) C dL_law_376 rfl 0 rfl rfl ?_
  refine h_iconst (n := 378) (2 : Int32) C dL_law_377 (by decide) rfl ?_
  refine h_iadd (n := 379) C dL_law_378 rfl ?_
  refine q_sld (n := 380) (j := i + 2) (nI_add i 2) (by omega) hL C hX hbl hbA dL_law_379 rfl ?_
  refine q_callVi (n := 383) (kd := 9) (a := 0) (M := N) (As := [.int (xv (i + 1)), .int (xv (i + 2))]) (rest := [.int r]) (post := fun r2 N' => r2 = (fChange s (xv (i + 1)) (xv (i + 2))).1 ∧ RM (fChange s (xv (i + 1)) (xv (i + 2))).2 N') (Pr1 := fun N' H => LPP Zx Zm M' N' H) C Em hAm (c_MD_change hZm _ (xv (i + 1)) (xv (i + 2)) N _ (ty_change (xv (i + 1)) (xv (i + 2)) T s N _ J R2 (fun N' R' => ⟨rfl, R'⟩))) yi_X9_change we_1021 rfl (om_0 hZm) ⟨(Nat.le_of_ble_eq_true rfl), (Nat.le_of_ble_eq_true rfl)⟩ (Nat.le_of_ble_eq_true rfl) hcc hss (fun H h => h.2) (fun H H1 N' h hw hk => ⟨Wd_kept h.1 (fun a ha hx => hk a ha (fun hm => hd a hx hm)), hw⟩) dL_law_380 rfl rfl (fun r2 N' h => ?_)
  obtain ⟨hr2, R2'⟩ := h
  refine h_icmp_eq (n := 386) (tgt := 743) C dL_law_383 (by decide) rfl (fun c => ?_) (fun c => absurd (hr1.trans hr2.symm) c)
  exact ih _ M' N' (tj_change (xv (i + 1)) (xv (i + 2)) T s J hT) R' R2'
set_option maxHeartbeats 4000000 in
set_option maxRecDepth 100000 in
theorem lc_10 {Zx Zm : ZT} {A : Nat → Prop} {X : XT} {b L i T : Nat} {xv : Nat → Int32} {s : ST} {M N : Mem} (W0 : LXX Zx Zm A X b L xv) (hi : i + 4 ≤ L) (J : JX T s) (R : RX s M) (R2 : RM s N) (hT : T + 24 < 2 ^ 20) (ih : ∀ (s' : ST) (M' N' : Mem), JX (T + 24) s' → RX s' M' → RM s' N' → GW (LPP Zx Zm M' N') A X 180 2338 743 [(3, .int (nI i)), (0, .ref b), (1, .ref (zb Zx + 0)), (2, .ref (zb Zm + 0))] []) : GW (LPP Zx Zm M N) A X 180 2338 388 [(3, .int (nI i)), (0, .ref b), (1, .ref (zb Zx + 0)), (2, .ref (zb Zm + 0))] [] := by
  obtain ⟨hZx, hZm, C, Ex, Em, hX, hbl, hbA, hAx, hAm, hd, hcc, hss, hL⟩ := W0
  refine h_aload_n (n := 389) (i := 1) C dL_law_388 rfl 2 rfl rfl ?_
  refine q_callVi (n := 392) (kd := 8) (a := 0) (M := M) (As := []) (rest := []) (post := fun r M' => r = (fUndo s).1 ∧ RX (fUndo s).2 M') (Pr1 := fun M' H => LPP Zx Zm M' N H) C Ex hAx (c_NB_undo hZx _ M _ (tx_undo T s M _ J R (fun M' R' => ⟨rfl, R'⟩))) yi_X8_undo we_583 rfl (ox_0 hZx) ⟨(Nat.le_of_ble_eq_true rfl), (Nat.le_of_ble_eq_true rfl)⟩ (Nat.le_of_ble_eq_true rfl) hcc hss (fun H h => h.1) (fun H H1 M' h hw hk => ⟨hw, Wd_kept h.2 (fun a ha hm => hk a ha (fun hx => hd a hx hm))⟩) dL_law_389 rfl rfl (fun r M' h => ?_)
  obtain ⟨hr1, R'⟩ := h
  refine h_aload_n (n := 393) (i := 2) C dL_law_392 rfl 3 rfl rfl ?_
  refine q_callVi (n := 396) (kd := 9) (a := 0) (M := N) (As := []) (rest := [.int r]) (post := fun r2 N' => r2 = (fUndo s).1 ∧ RM (fUndo s).2 N') (Pr1 := fun N' H => LPP Zx Zm M' N' H) C Em hAm (c_MD_undo hZm _ N _ (ty_undo T s N _ J R2 (fun N' R' => ⟨rfl, R'⟩))) yi_X9_undo we_1033 rfl (om_0 hZm) ⟨(Nat.le_of_ble_eq_true rfl), (Nat.le_of_ble_eq_true rfl)⟩ (Nat.le_of_ble_eq_true rfl) hcc hss (fun H h => h.2) (fun H H1 N' h hw hk => ⟨Wd_kept h.1 (fun a ha hx => hk a ha (fun hm => hd a hx hm)), hw⟩) dL_law_393 rfl rfl (fun r2 N' h => ?_)
  obtain ⟨hr2, R2'⟩ := h
  refine h_icmp_eq (n := 399) (tgt := 743) C dL_law_396 (by decide) rfl (fun c => ?_) (fun c => absurd (hr1.trans hr2.symm) c)
  exact ih _ M' N' (tj_undo T s J hT) R' R2'
set_option maxHeartbeats 4000000 in
set_option maxRecDepth 100000 in
theorem lc_11 {Zx Zm : ZT} {A : Nat → Prop} {X : XT} {b L i T : Nat} {xv : Nat → Int32} {s : ST} {M N : Mem} (W0 : LXX Zx Zm A X b L xv) (hi : i + 4 ≤ L) (J : JX T s) (R : RX s M) (R2 : RM s N) (hT : T + 24 < 2 ^ 20) (ih : ∀ (s' : ST) (M' N' : Mem), JX (T + 24) s' → RX s' M' → RM s' N' → GW (LPP Zx Zm M' N') A X 180 2338 743 [(3, .int (nI i)), (0, .ref b), (1, .ref (zb Zx + 0)), (2, .ref (zb Zm + 0))] []) : GW (LPP Zx Zm M N) A X 180 2338 401 [(3, .int (nI i)), (0, .ref b), (1, .ref (zb Zx + 0)), (2, .ref (zb Zm + 0))] [] := by
  obtain ⟨hZx, hZm, C, Ex, Em, hX, hbl, hbA, hAx, hAm, hd, hcc, hss, hL⟩ := W0
  refine h_aload_n (n := 402) (i := 1) C dL_law_401 rfl 2 rfl rfl ?_
  refine h_aload_n (n := 403) (i := 0) C dL_law_402 rfl 1 rfl rfl ?_
  refine h_iload_n (n := 404) (i := 3) C dL_law_403 rfl 0 rfl rfl ?_
  refine h_iconst (n := 405) (1 : Int32) C dL_law_404 (by decide) rfl ?_
  refine h_iadd (n := 406) C dL_law_405 rfl ?_
  refine q_sld (n := 407) (j := i + 1) (nI_add i 1) (by omega) hL C hX hbl hbA dL_law_406 rfl ?_
  refine q_callVi (n := 410) (kd := 8) (a := 0) (M := M) (As := [.int (xv (i + 1))]) (rest := []) (post := fun r M' => r = (fFreed s (xv (i + 1))).1 ∧ RX (fFreed s (xv (i + 1))).2 M') (Pr1 := fun M' H => LPP Zx Zm M' N H) C Ex hAx (c_NB_freed hZx _ (xv (i + 1)) M _ (tx_freed (xv (i + 1)) T s M _ J R (fun M' R' => ⟨rfl, R'⟩))) yi_X8_freed we_591 rfl (ox_0 hZx) ⟨(Nat.le_of_ble_eq_true rfl), (Nat.le_of_ble_eq_true rfl)⟩ (Nat.le_of_ble_eq_true rfl) hcc hss (fun H h => h.1) (fun H H1 M' h hw hk => ⟨hw, Wd_kept h.2 (fun a ha hm => hk a ha (fun hx => hd a hx hm))⟩) dL_law_407 rfl rfl (fun r M' h => ?_)
  obtain ⟨hr1, R'⟩ := h
  refine h_aload_n (n := 411) (i := 2) C dL_law_410 rfl 3 rfl rfl ?_
  refine h_aload_n (n := 412) (i := 0) C dL_law_411 rfl 1 rfl rfl ?_
  refine h_iload_n (n := 413) (i := 3) C dL_law_412 rfl 0 rfl rfl ?_
  refine h_iconst (n := 414) (1 : Int32) C dL_law_413 (by decide) rfl ?_
  refine h_iadd (n := 415) C dL_law_414 rfl ?_
  refine q_sld (n := 416) (j := i + 1) (nI_add i 1) (by omega) hL C hX hbl hbA dL_law_415 rfl ?_
  refine q_callVi (n := 419) (kd := 9) (a := 0) (M := N) (As := [.int (xv (i + 1))]) (rest := [.int r]) (post := fun r2 N' => r2 = (fFreed s (xv (i + 1))).1 ∧ RM (fFreed s (xv (i + 1))).2 N') (Pr1 := fun N' H => LPP Zx Zm M' N' H) C Em hAm (c_MD_freed hZm _ (xv (i + 1)) N _ (ty_freed (xv (i + 1)) T s N _ J R2 (fun N' R' => ⟨rfl, R'⟩))) yi_X9_freed we_1037 rfl (om_0 hZm) ⟨(Nat.le_of_ble_eq_true rfl), (Nat.le_of_ble_eq_true rfl)⟩ (Nat.le_of_ble_eq_true rfl) hcc hss (fun H h => h.2) (fun H H1 N' h hw hk => ⟨Wd_kept h.1 (fun a ha hx => hk a ha (fun hm => hd a hx hm)), hw⟩) dL_law_416 rfl rfl (fun r2 N' h => ?_)
  obtain ⟨hr2, R2'⟩ := h
  refine h_icmp_eq (n := 422) (tgt := 743) C dL_law_419 (by decide) rfl (fun c => ?_) (fun c => absurd (hr1.trans hr2.symm) c)
  exact ih _ M' N' (tj_freed (xv (i + 1)) T s J hT) R' R2'
set_option maxHeartbeats 4000000 in
set_option maxRecDepth 100000 in
theorem lc_12 {Zx Zm : ZT} {A : Nat → Prop} {X : XT} {b L i T : Nat} {xv : Nat → Int32} {s : ST} {M N : Mem} (W0 : LXX Zx Zm A X b L xv) (hi : i + 4 ≤ L) (J : JX T s) (R : RX s M) (R2 : RM s N) (hT : T + 24 < 2 ^ 20) (ih : ∀ (s' : ST) (M' N' : Mem), JX (T + 24) s' → RX s' M' → RM s' N' → GW (LPP Zx Zm M' N') A X 180 2338 743 [(3, .int (nI i)), (0, .ref b), (1, .ref (zb Zx + 0)), (2, .ref (zb Zm + 0))] []) : GW (LPP Zx Zm M N) A X 180 2338 424 [(3, .int (nI i)), (0, .ref b), (1, .ref (zb Zx + 0)), (2, .ref (zb Zm + 0))] [] := by
  obtain ⟨hZx, hZm, C, Ex, Em, hX, hbl, hbA, hAx, hAm, hd, hcc, hss, hL⟩ := W0
  refine h_aload_n (n := 425) (i := 1) C dL_law_424 rfl 2 rfl rfl ?_
  refine h_aload_n (n := 426) (i := 0) C dL_law_425 rfl 1 rfl rfl ?_
  refine h_iload_n (n := 427) (i := 3) C dL_law_426 rfl 0 rfl rfl ?_
  refine h_iconst (n := 428) (1 : Int32) C dL_law_427 (by decide) rfl ?_
  refine h_iadd (n := 429) C dL_law_428 rfl ?_
  refine q_sld (n := 430) (j := i + 1) (nI_add i 1) (by omega) hL C hX hbl hbA dL_law_429 rfl ?_
  refine q_callVi (n := 433) (kd := 8) (a := 0) (M := M) (As := [.int (xv (i + 1))]) (rest := []) (post := fun r M' => r = (fTask s (xv (i + 1))).1 ∧ RX (fTask s (xv (i + 1))).2 M') (Pr1 := fun M' H => LPP Zx Zm M' N H) C Ex hAx (c_NB_task hZx _ (xv (i + 1)) M _ (tx_task (xv (i + 1)) T s M _ J R (fun M' R' => ⟨rfl, R'⟩))) yi_X8_task we_631 rfl (ox_0 hZx) ⟨(Nat.le_of_ble_eq_true rfl), (Nat.le_of_ble_eq_true rfl)⟩ (Nat.le_of_ble_eq_true rfl) hcc hss (fun H h => h.1) (fun H H1 M' h hw hk => ⟨hw, Wd_kept h.2 (fun a ha hm => hk a ha (fun hx => hd a hx hm))⟩) dL_law_430 rfl rfl (fun r M' h => ?_)
  obtain ⟨hr1, R'⟩ := h
  refine h_aload_n (n := 434) (i := 2) C dL_law_433 rfl 3 rfl rfl ?_
  refine h_aload_n (n := 435) (i := 0) C dL_law_434 rfl 1 rfl rfl ?_
  refine h_iload_n (n := 436) (i := 3) C dL_law_435 rfl 0 rfl rfl ?_
  refine h_iconst (n := 437) (1 : Int32) C dL_law_436 (by decide) rfl ?_
  refine h_iadd (n := 438) C dL_law_437 rfl ?_
  refine q_sld (n := 439) (j := i + 1) (nI_add i 1) (by omega) hL C hX hbl hbA dL_law_438 rfl ?_
  refine q_callVi (n := 442) (kd := 9) (a := 0) (M := N) (As := [.int (xv (i + 1))]) (rest := [.int r]) (post := fun r2 N' => r2 = (fTask s (xv (i + 1))).1 ∧ RM (fTask s (xv (i + 1))).2 N') (Pr1 := fun N' H => LPP Zx Zm M' N' H) C Em hAm (c_MD_task hZm _ (xv (i + 1)) N _ (ty_task (xv (i + 1)) T s N _ J R2 (fun N' R' => ⟨rfl, R'⟩))) yi_X9_task we_1045 rfl (om_0 hZm) ⟨(Nat.le_of_ble_eq_true rfl), (Nat.le_of_ble_eq_true rfl)⟩ (Nat.le_of_ble_eq_true rfl) hcc hss (fun H h => h.2) (fun H H1 N' h hw hk => ⟨Wd_kept h.1 (fun a ha hx => hk a ha (fun hm => hd a hx hm)), hw⟩) dL_law_439 rfl rfl (fun r2 N' h => ?_)
  obtain ⟨hr2, R2'⟩ := h
  refine h_icmp_eq (n := 445) (tgt := 743) C dL_law_442 (by decide) rfl (fun c => ?_) (fun c => absurd (hr1.trans hr2.symm) c)
  exact ih _ M' N' (tj_task (xv (i + 1)) T s J hT) R' R2'
set_option maxHeartbeats 4000000 in
set_option maxRecDepth 100000 in
theorem lc_13 {Zx Zm : ZT} {A : Nat → Prop} {X : XT} {b L i T : Nat} {xv : Nat → Int32} {s : ST} {M N : Mem} (W0 : LXX Zx Zm A X b L xv) (hi : i + 4 ≤ L) (J : JX T s) (R : RX s M) (R2 : RM s N) (hT : T + 24 < 2 ^ 20) (ih : ∀ (s' : ST) (M' N' : Mem), JX (T + 24) s' → RX s' M' → RM s' N' → GW (LPP Zx Zm M' N') A X 180 2338 743 [(3, .int (nI i)), (0, .ref b), (1, .ref (zb Zx + 0)), (2, .ref (zb Zm + 0))] []) : GW (LPP Zx Zm M N) A X 180 2338 447 [(3, .int (nI i)), (0, .ref b), (1, .ref (zb Zx + 0)), (2, .ref (zb Zm + 0))] [] := by
  obtain ⟨hZx, hZm, C, Ex, Em, hX, hbl, hbA, hAx, hAm, hd, hcc, hss, hL⟩ := W0
  refine h_aload_n (n := 448) (i := 1) C dL_law_447 rfl 2 rfl rfl ?_
  refine h_aload_n (n := 449) (i := 0) C dL_law_448 rfl 1 rfl rfl ?_
  refine h_iload_n (n := 450) (i := 3) C dL_law_449 rfl 0 rfl rfl ?_
  refine h_iconst (n := 451) (1 : Int32) C dL_law_450 (by decide) rfl ?_
  refine h_iadd (n := 452) C dL_law_451 rfl ?_
  refine q_sld (n := 453) (j := i + 1) (nI_add i 1) (by omega) hL C hX hbl hbA dL_law_452 rfl ?_
  refine h_aload_n (n := 454) (i := 0) C dL_law_453 rfl 1 rfl rfl ?_
  refine h_iload_n (n := 455) (i := 3) C dL_law_454 rfl 0 rfl rfl ?_
  refine h_iconst (n := 456) (2 : Int32) C dL_law_455 (by decide) rfl ?_
  refine h_iadd (n := 457) C dL_law_456 rfl ?_
  refine q_sld (n := 458) (j := i + 2) (nI_add i 2) (by omega) hL C hX hbl hbA dL_law_457 rfl ?_
  refine q_callVi (n := 461) (kd := 8) (a := 0) (M := M) (As := [.int (xv (i + 1)), .int (xv (i + 2))]) (rest := []) (post := fun r M' => r = (fEarly s (xv (i + 1)) (xv (i + 2))).1 ∧ RX (fEarly s (xv (i + 1)) (xv (i + 2))).2 M') (Pr1 := fun M' H => LPP Zx Zm M' N H) C Ex hAx (c_NB_early hZx _ (xv (i + 1)) (xv (i + 2)) M _ (tx_early (xv (i + 1)) (xv (i + 2)) T s M _ J R (fun M' R' => ⟨rfl, R'⟩))) yi_X8_early we_639 rfl (ox_0 hZx) ⟨(Nat.le_of_ble_eq_true rfl), (Nat.le_of_ble_eq_true rfl)⟩ (Nat.le_of_ble_eq_true rfl) hcc hss (fun H h => h.1) (fun H H1 M' h hw hk => ⟨hw, Wd_kept h.2 (fun a ha hm => hk a ha (fun hx => hd a hx hm))⟩) dL_law_458 rfl rfl (fun r M' h => ?_)
  obtain ⟨hr1, R'⟩ := h
  refine h_aload_n (n := 462) (i := 2) C dL_law_461 rfl 3 rfl rfl ?_
  refine h_aload_n (n := 463) (i := 0) C dL_law_462 rfl 1 rfl rfl ?_
  refine h_iload_n (n := 464) (i := 3) C dL_law_463 rfl 0 rfl rfl ?_
  refine h_iconst (n := 465) (1 : Int32) C dL_law_464 (by decide) rfl ?_
  refine h_iadd (n := 466) C dL_law_465 rfl ?_
  refine q_sld (n := 467) (j := i + 1) (nI_add i 1) (by omega) hL C hX hbl hbA dL_law_466 rfl ?_
  refine h_aload_n (n := 468) (i := 0) C dL_law_467 rfl 1 rfl rfl ?_
  refine h_iload_n (n := 469) (i := 3) C dL_law_468 rfl 0 rfl rfl ?_
  refine h_iconst (n := 470) (2 : Int32) C dL_law_469 (by decide) rfl ?_
  refine h_iadd (n := 471) C dL_law_470 rfl ?_
  refine q_sld (n := 472) (j := i + 2) (nI_add i 2) (by omega) hL C hX hbl hbA dL_law_471 rfl ?_
  refine q_callVi (n := 475) (kd := 9) (a := 0) (M := N) (As := [.int (xv (i + 1)), .int (xv (i + 2))]) (rest := [.int r]) (post := fun r2 N' => r2 = (fEarly s (xv (i + 1)) (xv (i + 2))).1 ∧ RM (fEarly s (xv (i + 1)) (xv (i + 2))).2 N') (Pr1 := fun N' H => LPP Zx Zm M' N' H) C Em hAm (c_MD_early hZm _ (xv (i + 1)) (xv (i + 2)) N _ (ty_early (xv (i + 1)) (xv (i + 2)) T s N _ J R2 (fun N' R' => ⟨rfl, R'⟩))) yi_X9_early we_1053 rfl (om_0 hZm) ⟨(Nat.le_of_ble_eq_true rfl), (Nat.le_of_ble_eq_true rfl)⟩ (Nat.le_of_ble_eq_true rfl) hcc hss (fun H h => h.2) (fun H H1 N' h hw hk => ⟨Wd_kept h.1 (fun a ha hx => hk a ha (fun hm => hd a hx hm)), hw⟩) dL_law_472 rfl rfl (fun r2 N' h => ?_)
  obtain ⟨hr2, R2'⟩ := h
  refine h_icmp_eq (n := 478) (tgt := 743) C dL_law_475 (by decide) rfl (fun c => ?_) (fun c => absurd (hr1.trans hr2.symm) c)
  exact ih _ M' N' (tj_early (xv (i + 1)) (xv (i + 2)) T s J hT) R' R2'
set_option maxHeartbeats 4000000 in
set_option maxRecDepth 100000 in
theorem lc_14 {Zx Zm : ZT} {A : Nat → Prop} {X : XT} {b L i T : Nat} {xv : Nat → Int32} {s : ST} {M N : Mem} (W0 : LXX Zx Zm A X b L xv) (hi : i + 4 ≤ L) (J : JX T s) (R : RX s M) (R2 : RM s N) (hT : T + 24 < 2 ^ 20) (ih : ∀ (s' : ST) (M' N' : Mem), JX (T + 24) s' → RX s' M' → RM s' N' → GW (LPP Zx Zm M' N') A X 180 2338 743 [(3, .int (nI i)), (0, .ref b), (1, .ref (zb Zx + 0)), (2, .ref (zb Zm + 0))] []) : GW (LPP Zx Zm M N) A X 180 2338 480 [(3, .int (nI i)), (0, .ref b), (1, .ref (zb Zx + 0)), (2, .ref (zb Zm + 0))] [] := by
  obtain ⟨hZx, hZm, C, Ex, Em, hX, hbl, hbA, hAx, hAm, hd, hcc, hss, hL⟩ := W0
  refine h_aload_n (n := 481) (i := 1) C dL_law_480 rfl 2 rfl rfl ?_
  refine q_callVi (n := 484) (kd := 8) (a := 0) (M := M) (As := []) (rest := []) (post := fun r M' => r = (fDone s).1 ∧ RX (fDone s).2 M') (Pr1 := fun M' H => LPP Zx Zm M' N H) C Ex hAx (c_NB_done hZx _ M _ (tx_done T s M _ J R (fun M' R' => ⟨rfl, R'⟩))) yi_X8_done we_645 rfl (ox_0 hZx) ⟨(Nat.le_of_ble_eq_true rfl), (Nat.le_of_ble_eq_true rfl)⟩ (Nat.le_of_ble_eq_true rfl) hcc hss (fun H h => h.1) (fun H H1 M' h hw hk => ⟨hw, Wd_kept h.2 (fun a ha hm => hk a ha (fun hx => hd a hx hm))⟩) dL_law_481 rfl rfl (fun r M' h => ?_)
  obtain ⟨hr1, R'⟩ := h
  refine h_aload_n (n := 485) (i := 2) C dL_law_484 rfl 3 rfl rfl ?_
  refine q_callVi (n := 488) (kd := 9) (a := 0) (M := N) (As := []) (rest := [.int r]) (post := fun r2 N' => r2 = (fDone s).1 ∧ RM (fDone s).2 N') (Pr1 := fun N' H => LPP Zx Zm M' N' H) C Em hAm (c_MD_done hZm _ N _ (ty_done T s N _ J R2 (fun N' R' => ⟨rfl, R'⟩))) yi_X9_done we_1058 rfl (om_0 hZm) ⟨(Nat.le_of_ble_eq_true rfl), (Nat.le_of_ble_eq_true rfl)⟩ (Nat.le_of_ble_eq_true rfl) hcc hss (fun H h => h.2) (fun H H1 N' h hw hk => ⟨Wd_kept h.1 (fun a ha hx => hk a ha (fun hm => hd a hx hm)), hw⟩) dL_law_485 rfl rfl (fun r2 N' h => ?_)
  obtain ⟨hr2, R2'⟩ := h
  refine h_icmp_eq (n := 491) (tgt := 743) C dL_law_488 (by decide) rfl (fun c => ?_) (fun c => absurd (hr1.trans hr2.symm) c)
  exact ih _ M' N' (tj_done T s J hT) R' R2'
set_option maxHeartbeats 4000000 in
set_option maxRecDepth 100000 in
theorem lc_15 {Zx Zm : ZT} {A : Nat → Prop} {X : XT} {b L i T : Nat} {xv : Nat → Int32} {s : ST} {M N : Mem} (W0 : LXX Zx Zm A X b L xv) (hi : i + 4 ≤ L) (J : JX T s) (R : RX s M) (R2 : RM s N) (hT : T + 24 < 2 ^ 20) (ih : ∀ (s' : ST) (M' N' : Mem), JX (T + 24) s' → RX s' M' → RM s' N' → GW (LPP Zx Zm M' N') A X 180 2338 743 [(3, .int (nI i)), (0, .ref b), (1, .ref (zb Zx + 0)), (2, .ref (zb Zm + 0))] []) : GW (LPP Zx Zm M N) A X 180 2338 493 [(3, .int (nI i)), (0, .ref b), (1, .ref (zb Zx + 0)), (2, .ref (zb Zm + 0))] [] := by
  obtain ⟨hZx, hZm, C, Ex, Em, hX, hbl, hbA, hAx, hAm, hd, hcc, hss, hL⟩ := W0
  refine h_aload_n (n := 494) (i := 1) C dL_law_493 rfl 2 rfl rfl ?_
  refine h_aload_n (n := 495) (i := 0) C dL_law_494 rfl 1 rfl rfl ?_
  refine h_iload_n (n := 496) (i := 3) C dL_law_495 rfl 0 rfl rfl ?_
  refine h_iconst (n := 497) (1 : Int32) C dL_law_496 (by decide) rfl ?_
  refine h_iadd (n := 498) C dL_law_497 rfl ?_
  refine q_sld (n := 499) (j := i + 1) (nI_add i 1) (by omega) hL C hX hbl hbA dL_law_498 rfl ?_
  refine q_callVi (n := 502) (kd := 8) (a := 0) (M := M) (As := [.int (xv (i + 1))]) (rest := []) (post := fun r M' => r = (fDeal s (xv (i + 1))).1 ∧ RX (fDeal s (xv (i + 1))).2 M') (Pr1 := fun M' H => LPP Zx Zm M' N H) C Ex hAx (c_NB_deal hZx _ (xv (i + 1)) M _ (tx_deal (xv (i + 1)) T s M _ J R (fun M' R' => ⟨rfl, R'⟩))) yi_X8_deal we_649 rfl (ox_0 hZx) ⟨(Nat.le_of_ble_eq_true rfl), (Nat.le_of_ble_eq_true rfl)⟩ (Nat.le_of_ble_eq_true rfl) hcc hss (fun H h => h.1) (fun H H1 M' h hw hk => ⟨hw, Wd_kept h.2 (fun a ha hm => hk a ha (fun hx => hd a hx hm))⟩) dL_law_499 rfl rfl (fun r M' h => ?_)
  obtain ⟨hr1, R'⟩ := h
  refine h_aload_n (n := 503) (i := 2) C dL_law_502 rfl 3 rfl rfl ?_
  refine h_aload_n (n := 504) (i := 0) C dL_law_503 rfl 1 rfl rfl ?_
  refine h_iload_n (n := 505) (i := 3) C dL_law_504 rfl 0 rfl rfl ?_
  refine h_iconst (n := 506) (1 : Int32) C dL_law_505 (by decide) rfl ?_
  refine h_iadd (n := 507) C dL_law_506 rfl ?_
  refine q_sld (n := 508) (j := i + 1) (nI_add i 1) (by omega) hL C hX hbl hbA dL_law_507 rfl ?_
  refine q_callVi (n := 511) (kd := 9) (a := 0) (M := N) (As := [.int (xv (i + 1))]) (rest := [.int r]) (post := fun r2 N' => r2 = (fDeal s (xv (i + 1))).1 ∧ RM (fDeal s (xv (i + 1))).2 N') (Pr1 := fun N' H => LPP Zx Zm M' N' H) C Em hAm (c_MD_deal hZm _ (xv (i + 1)) N _ (ty_deal (xv (i + 1)) T s N _ J R2 (fun N' R' => ⟨rfl, R'⟩))) yi_X9_deal we_1070 rfl (om_0 hZm) ⟨(Nat.le_of_ble_eq_true rfl), (Nat.le_of_ble_eq_true rfl)⟩ (Nat.le_of_ble_eq_true rfl) hcc hss (fun H h => h.2) (fun H H1 N' h hw hk => ⟨Wd_kept h.1 (fun a ha hx => hk a ha (fun hm => hd a hx hm)), hw⟩) dL_law_508 rfl rfl (fun r2 N' h => ?_)
  obtain ⟨hr2, R2'⟩ := h
  refine h_icmp_eq (n := 514) (tgt := 743) C dL_law_511 (by decide) rfl (fun c => ?_) (fun c => absurd (hr1.trans hr2.symm) c)
  exact ih _ M' N' (tj_deal (xv (i + 1)) T s J hT) R' R2'
set_option maxHeartbeats 4000000 in
set_option maxRecDepth 100000 in
theorem lc_16 {Zx Zm : ZT} {A : Nat → Prop} {X : XT} {b L i T : Nat} {xv : Nat → Int32} {s : ST} {M N : Mem} (W0 : LXX Zx Zm A X b L xv) (hi : i + 4 ≤ L) (J : JX T s) (R : RX s M) (R2 : RM s N) (hT : T + 24 < 2 ^ 20) (ih : ∀ (s' : ST) (M' N' : Mem), JX (T + 24) s' → RX s' M' → RM s' N' → GW (LPP Zx Zm M' N') A X 180 2338 743 [(3, .int (nI i)), (0, .ref b), (1, .ref (zb Zx + 0)), (2, .ref (zb Zm + 0))] []) : GW (LPP Zx Zm M N) A X 180 2338 516 [(3, .int (nI i)), (0, .ref b), (1, .ref (zb Zx + 0)), (2, .ref (zb Zm + 0))] [] := by
  obtain ⟨hZx, hZm, C, Ex, Em, hX, hbl, hbA, hAx, hAm, hd, hcc, hss, hL⟩ := W0
  refine h_aload_n (n := 517) (i := 1) C dL_law_516 rfl 2 rfl rfl ?_
  refine h_aload_n (n := 518) (i := 0) C dL_law_517 rfl 1 rfl rfl ?_
  refine h_iload_n (n := 519) (i := 3) C dL_law_518 rfl 0 rfl rfl ?_
  refine h_iconst (n := 520) (1 : Int32) C dL_law_519 (by decide) rfl ?_
  refine h_iadd (n := 521) C dL_law_520 rfl ?_
  refine q_sld (n := 522) (j := i + 1) (nI_add i 1) (by omega) hL C hX hbl hbA dL_law_521 rfl ?_
  refine q_callVi (n := 525) (kd := 8) (a := 0) (M := M) (As := [.int (xv (i + 1))]) (rest := []) (post := fun r M' => r = (fOff s (xv (i + 1))).1 ∧ RX (fOff s (xv (i + 1))).2 M') (Pr1 := fun M' H => LPP Zx Zm M' N H) C Ex hAx (c_NB_off hZx _ (xv (i + 1)) M _ (tx_off (xv (i + 1)) T s M _ J R (fun M' R' => ⟨rfl, R'⟩))) yi_X8_off we_696 rfl (ox_0 hZx) ⟨(Nat.le_of_ble_eq_true rfl), (Nat.le_of_ble_eq_true rfl)⟩ (Nat.le_of_ble_eq_true rfl) hcc hss (fun H h => h.1) (fun H H1 M' h hw hk => ⟨hw, Wd_kept h.2 (fun a ha hm => hk a ha (fun hx => hd a hx hm))⟩) dL_law_522 rfl rfl (fun r M' h => ?_)
  obtain ⟨hr1, R'⟩ := h
  refine h_aload_n (n := 526) (i := 2) C dL_law_525 rfl 3 rfl rfl ?_
  refine h_aload_n (n := 527) (i := 0) C dL_law_526 rfl 1 rfl rfl ?_
  refine h_iload_n (n := 528) (i := 3) C dL_law_527 rfl 0 rfl rfl ?_
  refine h_iconst (n := 529) (1 : Int32) C dL_law_528 (by decide) rfl ?_
  refine h_iadd (n := 530) C dL_law_529 rfl ?_
  refine q_sld (n := 531) (j := i + 1) (nI_add i 1) (by omega) hL C hX hbl hbA dL_law_530 rfl ?_
  refine q_callVi (n := 534) (kd := 9) (a := 0) (M := N) (As := [.int (xv (i + 1))]) (rest := [.int r]) (post := fun r2 N' => r2 = (fOff s (xv (i + 1))).1 ∧ RM (fOff s (xv (i + 1))).2 N') (Pr1 := fun N' H => LPP Zx Zm M' N' H) C Em hAm (c_MD_off hZm _ (xv (i + 1)) N _ (ty_off (xv (i + 1)) T s N _ J R2 (fun N' R' => ⟨rfl, R'⟩))) yi_X9_off we_1078 rfl (om_0 hZm) ⟨(Nat.le_of_ble_eq_true rfl), (Nat.le_of_ble_eq_true rfl)⟩ (Nat.le_of_ble_eq_true rfl) hcc hss (fun H h => h.2) (fun H H1 N' h hw hk => ⟨Wd_kept h.1 (fun a ha hx => hk a ha (fun hm => hd a hx hm)), hw⟩) dL_law_531 rfl rfl (fun r2 N' h => ?_)
  obtain ⟨hr2, R2'⟩ := h
  refine h_icmp_eq (n := 537) (tgt := 743) C dL_law_534 (by decide) rfl (fun c => ?_) (fun c => absurd (hr1.trans hr2.symm) c)
  exact ih _ M' N' (tj_off (xv (i + 1)) T s J hT) R' R2'
set_option maxHeartbeats 4000000 in
set_option maxRecDepth 100000 in
theorem lc_17 {Zx Zm : ZT} {A : Nat → Prop} {X : XT} {b L i T : Nat} {xv : Nat → Int32} {s : ST} {M N : Mem} (W0 : LXX Zx Zm A X b L xv) (hi : i + 4 ≤ L) (J : JX T s) (R : RX s M) (R2 : RM s N) (hT : T + 24 < 2 ^ 20) (ih : ∀ (s' : ST) (M' N' : Mem), JX (T + 24) s' → RX s' M' → RM s' N' → GW (LPP Zx Zm M' N') A X 180 2338 743 [(3, .int (nI i)), (0, .ref b), (1, .ref (zb Zx + 0)), (2, .ref (zb Zm + 0))] []) : GW (LPP Zx Zm M N) A X 180 2338 539 [(3, .int (nI i)), (0, .ref b), (1, .ref (zb Zx + 0)), (2, .ref (zb Zm + 0))] [] := by
  obtain ⟨hZx, hZm, C, Ex, Em, hX, hbl, hbA, hAx, hAm, hd, hcc, hss, hL⟩ := W0
  refine h_aload_n (n := 540) (i := 1) C dL_law_539 rfl 2 rfl rfl ?_
  refine h_aload_n (n := 541) (i := 0) C dL_law_540 rfl 1 rfl rfl ?_
  refine h_iload_n (n := 542) (i := 3) C dL_law_541 rfl 0 rfl rfl ?_
  refine h_iconst (n := 543) (1 : Int32) C dL_law_542 (by decide) rfl ?_
  refine h_iadd (n := 544) C dL_law_543 rfl ?_
  refine q_sld (n := 545) (j := i + 1) (nI_add i 1) (by omega) hL C hX hbl hbA dL_law_544 rfl ?_
  refine h_aload_n (n := 546) (i := 0) C dL_law_545 rfl 1 rfl rfl ?_
  refine h_iload_n (n := 547) (i := 3) C dL_law_546 rfl 0 rfl rfl ?_
  refine h_iconst (n := 548) (2 : Int32) C dL_law_547 (by decide) rfl ?_
  refine h_iadd (n := 549) C dL_law_548 rfl ?_
  refine q_sld (n := 550) (j := i + 2) (nI_add i 2) (by omega) hL C hX hbl hbA dL_law_549 rfl ?_
  refine q_callVi (n := 553) (kd := 8) (a := 0) (M := M) (As := [.int (xv (i + 1)), .int (xv (i + 2))]) (rest := []) (post := fun r M' => r = (fSee s (xv (i + 1)) (xv (i + 2))).1 ∧ RX (fSee s (xv (i + 1)) (xv (i + 2))).2 M') (Pr1 := fun M' H => LPP Zx Zm M' N H) C Ex hAx (c_NB_see hZx _ (xv (i + 1)) (xv (i + 2)) M _ (tx_see (xv (i + 1)) (xv (i + 2)) T s M _ J R (fun M' R' => ⟨rfl, R'⟩))) yi_X8_see we_700 rfl (ox_0 hZx) ⟨(Nat.le_of_ble_eq_true rfl), (Nat.le_of_ble_eq_true rfl)⟩ (Nat.le_of_ble_eq_true rfl) hcc hss (fun H h => h.1) (fun H H1 M' h hw hk => ⟨hw, Wd_kept h.2 (fun a ha hm => hk a ha (fun hx => hd a hx hm))⟩) dL_law_550 rfl rfl (fun r M' h => ?_)
  obtain ⟨hr1, R'⟩ := h
  refine h_aload_n (n := 554) (i := 2) C dL_law_553 rfl 3 rfl rfl ?_
  refine h_aload_n (n := 555) (i := 0) C dL_law_554 rfl 1 rfl rfl ?_
  refine h_iload_n (n := 556) (i := 3) C dL_law_555 rfl 0 rfl rfl ?_
  refine h_iconst (n := 557) (1 : Int32) C dL_law_556 (by decide) rfl ?_
  refine h_iadd (n := 558) C dL_law_557 rfl ?_
  refine q_sld (n := 559) (j := i + 1) (nI_add i 1) (by omega) hL C hX hbl hbA dL_law_558 rfl ?_
  refine h_aload_n (n := 560) (i := 0) C dL_law_559 rfl 1 rfl rfl ?_
  refine h_iload_n (n := 561) (i := 3) C dL_law_560 rfl 0 rfl rfl ?_
  refine h_iconst (n := 562) (2 : Int32) C dL_law_561 (by decide) rfl ?_
  refine h_iadd (n := 563) C dL_law_562 rfl ?_
  refine q_sld (n := 564) (j := i + 2) (nI_add i 2) (by omega) hL C hX hbl hbA dL_law_563 rfl ?_
  refine q_callVi (n := 567) (kd := 9) (a := 0) (M := N) (As := [.int (xv (i + 1)), .int (xv (i + 2))]) (rest := [.int r]) (post := fun r2 N' => r2 = (fSee s (xv (i + 1)) (xv (i + 2))).1 ∧ RM (fSee s (xv (i + 1)) (xv (i + 2))).2 N') (Pr1 := fun N' H => LPP Zx Zm M' N' H) C Em hAm (c_MD_see hZm _ (xv (i + 1)) (xv (i + 2)) N _ (ty_see (xv (i + 1)) (xv (i + 2)) T s N _ J R2 (fun N' R' => ⟨rfl, R'⟩))) yi_X9_see we_1082 rfl (om_0 hZm) ⟨(Nat.le_of_ble_eq_true rfl), (Nat.le_of_ble_eq_true rfl)⟩ (Nat.le_of_ble_eq_true rfl) hcc hss (fun H h => h.2) (fun H H1 N' h hw hk => ⟨Wd_kept h.1 (fun a ha hx => hk a ha (fun hm => hd a hx hm)), hw⟩) dL_law_564 rfl rfl (fun r2 N' h => ?_)
  obtain ⟨hr2, R2'⟩ := h
  refine h_icmp_eq (n := 570) (tgt := 743) C dL_law_567 (by decide) rfl (fun c => ?_) (fun c => absurd (hr1.trans hr2.symm) c)
  exact ih _ M' N' (tj_see (xv (i + 1)) (xv (i + 2)) T s J hT) R' R2'
set_option maxHeartbeats 4000000 in
set_option maxRecDepth 100000 in
theorem lc_18 {Zx Zm : ZT} {A : Nat → Prop} {X : XT} {b L i T : Nat} {xv : Nat → Int32} {s : ST} {M N : Mem} (W0 : LXX Zx Zm A X b L xv) (hi : i + 4 ≤ L) (J : JX T s) (R : RX s M) (R2 : RM s N) (hT : T + 24 < 2 ^ 20) (ih : ∀ (s' : ST) (M' N' : Mem), JX (T + 24) s' → RX s' M' → RM s' N' → GW (LPP Zx Zm M' N') A X 180 2338 743 [(3, .int (nI i)), (0, .ref b), (1, .ref (zb Zx + 0)), (2, .ref (zb Zm + 0))] []) : GW (LPP Zx Zm M N) A X 180 2338 572 [(3, .int (nI i)), (0, .ref b), (1, .ref (zb Zx + 0)), (2, .ref (zb Zm + 0))] [] := by
  obtain ⟨hZx, hZm, C, Ex, Em, hX, hbl, hbA, hAx, hAm, hd, hcc, hss, hL⟩ := W0
  refine h_aload_n (n := 573) (i := 1) C dL_law_572 rfl 2 rfl rfl ?_
  refine q_callVi (n := 576) (kd := 8) (a := 0) (M := M) (As := []) (rest := []) (post := fun r M' => r = (fForget s).1 ∧ RX (fForget s).2 M') (Pr1 := fun M' H => LPP Zx Zm M' N H) C Ex hAx (c_NB_forget hZx _ M _ (tx_forget T s M _ J R (fun M' R' => ⟨rfl, R'⟩))) yi_X8_forget we_708 rfl (ox_0 hZx) ⟨(Nat.le_of_ble_eq_true rfl), (Nat.le_of_ble_eq_true rfl)⟩ (Nat.le_of_ble_eq_true rfl) hcc hss (fun H h => h.1) (fun H H1 M' h hw hk => ⟨hw, Wd_kept h.2 (fun a ha hm => hk a ha (fun hx => hd a hx hm))⟩) dL_law_573 rfl rfl (fun r M' h => ?_)
  obtain ⟨hr1, R'⟩ := h
  refine h_aload_n (n := 577) (i := 2) C dL_law_576 rfl 3 rfl rfl ?_
  refine q_callVi (n := 580) (kd := 9) (a := 0) (M := N) (As := []) (rest := [.int r]) (post := fun r2 N' => r2 = (fForget s).1 ∧ RM (fForget s).2 N') (Pr1 := fun N' H => LPP Zx Zm M' N' H) C Em hAm (c_MD_forget hZm _ N _ (ty_forget T s N _ J R2 (fun N' R' => ⟨rfl, R'⟩))) yi_X9_forget we_1087 rfl (om_0 hZm) ⟨(Nat.le_of_ble_eq_true rfl), (Nat.le_of_ble_eq_true rfl)⟩ (Nat.le_of_ble_eq_true rfl) hcc hss (fun H h => h.2) (fun H H1 N' h hw hk => ⟨Wd_kept h.1 (fun a ha hx => hk a ha (fun hm => hd a hx hm)), hw⟩) dL_law_577 rfl rfl (fun r2 N' h => ?_)
  obtain ⟨hr2, R2'⟩ := h
  refine h_icmp_eq (n := 583) (tgt := 743) C dL_law_580 (by decide) rfl (fun c => ?_) (fun c => absurd (hr1.trans hr2.symm) c)
  exact ih _ M' N' (tj_forget T s J hT) R' R2'
set_option maxHeartbeats 4000000 in
set_option maxRecDepth 100000 in
theorem lc_19 {Zx Zm : ZT} {A : Nat → Prop} {X : XT} {b L i T : Nat} {xv : Nat → Int32} {s : ST} {M N : Mem} (W0 : LXX Zx Zm A X b L xv) (hi : i + 4 ≤ L) (J : JX T s) (R : RX s M) (R2 : RM s N) (hT : T + 24 < 2 ^ 20) (ih : ∀ (s' : ST) (M' N' : Mem), JX (T + 24) s' → RX s' M' → RM s' N' → GW (LPP Zx Zm M' N') A X 180 2338 743 [(3, .int (nI i)), (0, .ref b), (1, .ref (zb Zx + 0)), (2, .ref (zb Zm + 0))] []) : GW (LPP Zx Zm M N) A X 180 2338 585 [(3, .int (nI i)), (0, .ref b), (1, .ref (zb Zx + 0)), (2, .ref (zb Zm + 0))] [] := by
  obtain ⟨hZx, hZm, C, Ex, Em, hX, hbl, hbA, hAx, hAm, hd, hcc, hss, hL⟩ := W0
  refine h_aload_n (n := 586) (i := 1) C dL_law_585 rfl 2 rfl rfl ?_
  refine h_aload_n (n := 587) (i := 0) C dL_law_586 rfl 1 rfl rfl ?_
  refine h_iload_n (n := 588) (i := 3) C dL_law_587 rfl 0 rfl rfl ?_
  refine h_iconst (n := 589) (1 : Int32) C dL_law_588 (by decide) rfl ?_
  refine h_iadd (n := 590) C dL_law_589 rfl ?_
  refine q_sld (n := 591) (j := i + 1) (nI_add i 1) (by omega) hL C hX hbl hbA dL_law_590 rfl ?_
  refine q_callVi (n := 594) (kd := 8) (a := 0) (M := M) (As := [.int (xv (i + 1))]) (rest := []) (post := fun r M' => r = (fOrd s (xv (i + 1))).1 ∧ RX (fOrd s (xv (i + 1))).2 M') (Pr1 := fun M' H => LPP Zx Zm M' N H) C Ex hAx (c_NB_orders hZx _ (xv (i + 1)) M _ (tx_orders (xv (i + 1)) T s M _ J R (fun M' R' => ⟨rfl, R'⟩))) yi_X8_orders we_712 rfl (ox_0 hZx) ⟨(Nat.le_of_ble_eq_true rfl), (Nat.le_of_ble_eq_true rfl)⟩ (Nat.le_of_ble_eq_true rfl) hcc hss (fun H h => h.1) (fun H H1 M' h hw hk => ⟨hw, Wd_kept h.2 (fun a ha hm => hk a ha (fun hx => hd a hx hm))⟩) dL_law_591 rfl rfl (fun r M' h => ?_)
  obtain ⟨hr1, R'⟩ := h
  refine h_aload_n (n := 595) (i := 2) C dL_law_594 rfl 3 rfl rfl ?_
  refine h_aload_n (n := 596) (i := 0) C dL_law_595 rfl 1 rfl rfl ?_
  refine h_iload_n (n := 597) (i := 3) C dL_law_596 rfl 0 rfl rfl ?_
  refine h_iconst (n := 598) (1 : Int32) C dL_law_597 (by decide) rfl ?_
  refine h_iadd (n := 599) C dL_law_598 rfl ?_
  refine q_sld (n := 600) (j := i + 1) (nI_add i 1) (by omega) hL C hX hbl hbA dL_law_599 rfl ?_
  refine q_callVi (n := 603) (kd := 9) (a := 0) (M := N) (As := [.int (xv (i + 1))]) (rest := [.int r]) (post := fun r2 N' => r2 = (fOrd s (xv (i + 1))).1 ∧ RM (fOrd s (xv (i + 1))).2 N') (Pr1 := fun N' H => LPP Zx Zm M' N' H) C Em hAm (c_MD_orders hZm _ (xv (i + 1)) N _ (ty_orders (xv (i + 1)) T s N _ J R2 (fun N' R' => ⟨rfl, R'⟩))) yi_X9_orders we_1091 rfl (om_0 hZm) ⟨(Nat.le_of_ble_eq_true rfl), (Nat.le_of_ble_eq_true rfl)⟩ (Nat.le_of_ble_eq_true rfl) hcc hss (fun H h => h.2) (fun H H1 N' h hw hk => ⟨Wd_kept h.1 (fun a ha hx => hk a ha (fun hm => hd a hx hm)), hw⟩) dL_law_600 rfl rfl (fun r2 N' h => ?_)
  obtain ⟨hr2, R2'⟩ := h
  refine h_icmp_eq (n := 606) (tgt := 743) C dL_law_603 (by decide) rfl (fun c => ?_) (fun c => absurd (hr1.trans hr2.symm) c)
  exact ih _ M' N' (tj_orders (xv (i + 1)) T s J hT) R' R2'
set_option maxHeartbeats 4000000 in
set_option maxRecDepth 100000 in
theorem lc_20 {Zx Zm : ZT} {A : Nat → Prop} {X : XT} {b L i T : Nat} {xv : Nat → Int32} {s : ST} {M N : Mem} (W0 : LXX Zx Zm A X b L xv) (hi : i + 4 ≤ L) (J : JX T s) (R : RX s M) (R2 : RM s N) (hT : T + 24 < 2 ^ 20) (ih : ∀ (s' : ST) (M' N' : Mem), JX (T + 24) s' → RX s' M' → RM s' N' → GW (LPP Zx Zm M' N') A X 180 2338 743 [(3, .int (nI i)), (0, .ref b), (1, .ref (zb Zx + 0)), (2, .ref (zb Zm + 0))] []) : GW (LPP Zx Zm M N) A X 180 2338 608 [(3, .int (nI i)), (0, .ref b), (1, .ref (zb Zx + 0)), (2, .ref (zb Zm + 0))] [] := by
  obtain ⟨hZx, hZm, C, Ex, Em, hX, hbl, hbA, hAx, hAm, hd, hcc, hss, hL⟩ := W0
  refine h_aload_n (n := 609) (i := 1) C dL_law_608 rfl 2 rfl rfl ?_
  refine h_aload_n (n := 610) (i := 0) C dL_law_609 rfl 1 rfl rfl ?_
  refine h_iload_n (n := 611) (i := 3) C dL_law_610 rfl 0 rfl rfl ?_
  refine h_iconst (n := 612) (1 : Int32) C dL_law_611 (by decide) rfl ?_
  refine h_iadd (n := 613) C dL_law_612 rfl ?_
  refine q_sld (n := 614) (j := i + 1) (nI_add i 1) (by omega) hL C hX hbl hbA dL_law_613 rfl ?_
  refine h_aload_n (n := 615) (i := 0) C dL_law_614 rfl 1 rfl rfl ?_
  refine h_iload_n (n := 616) (i := 3) C dL_law_615 rfl 0 rfl rfl ?_
  refine h_iconst (n := 617) (2 : Int32) C dL_law_616 (by decide) rfl ?_
  refine h_iadd (n := 618) C dL_law_617 rfl ?_
  refine q_sld (n := 619) (j := i + 2) (nI_add i 2) (by omega) hL C hX hbl hbA dL_law_618 rfl ?_
  refine h_aload_n (n := 620) (i := 0) C dL_law_619 rfl 1 rfl rfl ?_
  refine h_iload_n (n := 621) (i := 3) C dL_law_620 rfl 0 rfl rfl ?_
  refine h_iconst (n := 622) (3 : Int32) C dL_law_621 (by decide) rfl ?_
  refine h_iadd (n := 623) C dL_law_622 rfl ?_
  refine q_sld (n := 624) (j := i + 3) (nI_add i 3) (by omega) hL C hX hbl hbA dL_law_623 rfl ?_
  refine q_callVi (n := 627) (kd := 8) (a := 0) (M := M) (As := [.int (xv (i + 1)), .int (xv (i + 2)), .int (xv (i + 3))]) (rest := []) (post := fun r M' => r = (fAbs s (xv (i + 1)) (xv (i + 2)) (xv (i + 3))).1 ∧ RX (fAbs s (xv (i + 1)) (xv (i + 2)) (xv (i + 3))).2 M') (Pr1 := fun M' H => LPP Zx Zm M' N H) C Ex hAx (c_NB_absent hZx _ (xv (i + 1)) (xv (i + 2)) (xv (i + 3)) M _ (tx_absent (xv (i + 1)) (xv (i + 2)) (xv (i + 3)) T s M _ J R (fun M' R' => ⟨rfl, R'⟩))) yi_X8_absent we_751 rfl (ox_0 hZx) ⟨(Nat.le_of_ble_eq_true rfl), (Nat.le_of_ble_eq_true rfl)⟩ (Nat.le_of_ble_eq_true rfl) hcc hss (fun H h => h.1) (fun H H1 M' h hw hk => ⟨hw, Wd_kept h.2 (fun a ha hm => hk a ha (fun hx => hd a hx hm))⟩) dL_law_624 rfl rfl (fun r M' h => ?_)
  obtain ⟨hr1, R'⟩ := h
  refine h_aload_n (n := 628) (i := 2) C dL_law_627 rfl 3 rfl rfl ?_
  refine h_aload_n (n := 629) (i := 0) C dL_law_628 rfl 1 rfl rfl ?_
  refine h_iload_n (n := 630) (i := 3) C dL_law_629 rfl 0 rfl rfl ?_
  refine h_iconst (n := 631) (1 : Int32) C dL_law_630 (by decide) rfl ?_
  refine h_iadd (n := 632) C dL_law_631 rfl ?_
  refine q_sld (n := 633) (j := i + 1) (nI_add i 1) (by omega) hL C hX hbl hbA dL_law_632 rfl ?_
  refine h_aload_n (n := 634) (i := 0) C dL_law_633 rfl 1 rfl rfl ?_
  refine h_iload_n (n := 635) (i := 3) C dL_law_634 rfl 0 rfl rfl ?_
  refine h_iconst (n := 636) (2 : Int32) C dL_law_635 (by decide) rfl ?_
  refine h_iadd (n := 637) C dL_law_636 rfl ?_
  refine q_sld (n := 638) (j := i + 2) (nI_add i 2) (by omega) hL C hX hbl hbA dL_law_637 rfl ?_
  refine h_aload_n (n := 639) (i := 0) C dL_law_638 rfl 1 rfl rfl ?_
  refine h_iload_n (n := 640) (i := 3) C dL_law_639 rfl 0 rfl rfl ?_
  refine h_iconst (n := 641) (3 : Int32) C dL_law_640 (by decide) rfl ?_
  refine h_iadd (n := 642) C dL_law_641 rfl ?_
  refine q_sld (n := 643) (j := i + 3) (nI_add i 3) (by omega) hL C hX hbl hbA dL_law_642 rfl ?_
  refine q_callVi (n := 646) (kd := 9) (a := 0) (M := N) (As := [.int (xv (i + 1)), .int (xv (i + 2)), .int (xv (i + 3))]) (rest := [.int r]) (post := fun r2 N' => r2 = (fAbs s (xv (i + 1)) (xv (i + 2)) (xv (i + 3))).1 ∧ RM (fAbs s (xv (i + 1)) (xv (i + 2)) (xv (i + 3))).2 N') (Pr1 := fun N' H => LPP Zx Zm M' N' H) C Em hAm (c_MD_absent hZm _ (xv (i + 1)) (xv (i + 2)) (xv (i + 3)) N _ (ty_absent (xv (i + 1)) (xv (i + 2)) (xv (i + 3)) T s N _ J R2 (fun N' R' => ⟨rfl, R'⟩))) yi_X9_absent we_1104 rfl (om_0 hZm) ⟨(Nat.le_of_ble_eq_true rfl), (Nat.le_of_ble_eq_true rfl)⟩ (Nat.le_of_ble_eq_true rfl) hcc hss (fun H h => h.2) (fun H H1 N' h hw hk => ⟨Wd_kept h.1 (fun a ha hx => hk a ha (fun hm => hd a hx hm)), hw⟩) dL_law_643 rfl rfl (fun r2 N' h => ?_)
  obtain ⟨hr2, R2'⟩ := h
  refine h_icmp_eq (n := 649) (tgt := 743) C dL_law_646 (by decide) rfl (fun c => ?_) (fun c => absurd (hr1.trans hr2.symm) c)
  exact ih _ M' N' (tj_absent (xv (i + 1)) (xv (i + 2)) (xv (i + 3)) T s J hT) R' R2'
set_option maxHeartbeats 4000000 in
set_option maxRecDepth 100000 in
theorem lc_21 {Zx Zm : ZT} {A : Nat → Prop} {X : XT} {b L i T : Nat} {xv : Nat → Int32} {s : ST} {M N : Mem} (W0 : LXX Zx Zm A X b L xv) (hi : i + 4 ≤ L) (J : JX T s) (R : RX s M) (R2 : RM s N) (hT : T + 24 < 2 ^ 20) (ih : ∀ (s' : ST) (M' N' : Mem), JX (T + 24) s' → RX s' M' → RM s' N' → GW (LPP Zx Zm M' N') A X 180 2338 743 [(3, .int (nI i)), (0, .ref b), (1, .ref (zb Zx + 0)), (2, .ref (zb Zm + 0))] []) : GW (LPP Zx Zm M N) A X 180 2338 651 [(3, .int (nI i)), (0, .ref b), (1, .ref (zb Zx + 0)), (2, .ref (zb Zm + 0))] [] := by
  obtain ⟨hZx, hZm, C, Ex, Em, hX, hbl, hbA, hAx, hAm, hd, hcc, hss, hL⟩ := W0
  refine h_aload_n (n := 652) (i := 1) C dL_law_651 rfl 2 rfl rfl ?_
  refine h_aload_n (n := 653) (i := 0) C dL_law_652 rfl 1 rfl rfl ?_
  refine h_iload_n (n := 654) (i := 3) C dL_law_653 rfl 0 rfl rfl ?_
  refine h_iconst (n := 655) (1 : Int32) C dL_law_654 (by decide) rfl ?_
  refine h_iadd (n := 656) C dL_law_655 rfl ?_
  refine q_sld (n := 657) (j := i + 1) (nI_add i 1) (by omega) hL C hX hbl hbA dL_law_656 rfl ?_
  refine h_aload_n (n := 658) (i := 0) C dL_law_657 rfl 1 rfl rfl ?_
  refine h_iload_n (n := 659) (i := 3) C dL_law_658 rfl 0 rfl rfl ?_
  refine h_iconst (n := 660) (2 : Int32) C dL_law_659 (by decide) rfl ?_
  refine h_iadd (n := 661) C dL_law_660 rfl ?_
  refine q_sld (n := 662) (j := i + 2) (nI_add i 2) (by omega) hL C hX hbl hbA dL_law_661 rfl ?_
  refine h_aload_n (n := 663) (i := 0) C dL_law_662 rfl 1 rfl rfl ?_
  refine h_iload_n (n := 664) (i := 3) C dL_law_663 rfl 0 rfl rfl ?_
  refine h_iconst (n := 665) (3 : Int32) C dL_law_664 (by decide) rfl ?_
  refine h_iadd (n := 666) C dL_law_665 rfl ?_
  refine q_sld (n := 667) (j := i + 3) (nI_add i 3) (by omega) hL C hX hbl hbA dL_law_666 rfl ?_
  refine q_callVi (n := 670) (kd := 8) (a := 0) (M := M) (As := [.int (xv (i + 1)), .int (xv (i + 2)), .int (xv (i + 3))]) (rest := []) (post := fun r M' => r = (fSeason s (xv (i + 1)) (xv (i + 2)) (xv (i + 3))).1 ∧ RX (fSeason s (xv (i + 1)) (xv (i + 2)) (xv (i + 3))).2 M') (Pr1 := fun M' H => LPP Zx Zm M' N H) C Ex hAx (c_NB_season hZx _ (xv (i + 1)) (xv (i + 2)) (xv (i + 3)) M _ (tx_season (xv (i + 1)) (xv (i + 2)) (xv (i + 3)) T s M _ J R (fun M' R' => ⟨rfl, R'⟩))) yi_X8_season we_774 rfl (ox_0 hZx) ⟨(Nat.le_of_ble_eq_true rfl), (Nat.le_of_ble_eq_true rfl)⟩ (Nat.le_of_ble_eq_true rfl) hcc hss (fun H h => h.1) (fun H H1 M' h hw hk => ⟨hw, Wd_kept h.2 (fun a ha hm => hk a ha (fun hx => hd a hx hm))⟩) dL_law_667 rfl rfl (fun r M' h => ?_)
  obtain ⟨hr1, R'⟩ := h
  refine h_aload_n (n := 671) (i := 2) C dL_law_670 rfl 3 rfl rfl ?_
  refine h_aload_n (n := 672) (i := 0) C dL_law_671 rfl 1 rfl rfl ?_
  refine h_iload_n (n := 673) (i := 3) C dL_law_672 rfl 0 rfl rfl ?_
  refine h_iconst (n := 674) (1 : Int32) C dL_law_673 (by decide) rfl ?_
  refine h_iadd (n := 675) C dL_law_674 rfl ?_
  refine q_sld (n := 676) (j := i + 1) (nI_add i 1) (by omega) hL C hX hbl hbA dL_law_675 rfl ?_
  refine h_aload_n (n := 677) (i := 0) C dL_law_676 rfl 1 rfl rfl ?_
  refine h_iload_n (n := 678) (i := 3) C dL_law_677 rfl 0 rfl rfl ?_
  refine h_iconst (n := 679) (2 : Int32) C dL_law_678 (by decide) rfl ?_
  refine h_iadd (n := 680) C dL_law_679 rfl ?_
  refine q_sld (n := 681) (j := i + 2) (nI_add i 2) (by omega) hL C hX hbl hbA dL_law_680 rfl ?_
  refine h_aload_n (n := 682) (i := 0) C dL_law_681 rfl 1 rfl rfl ?_
  refine h_iload_n (n := 683) (i := 3) C dL_law_682 rfl 0 rfl rfl ?_
  refine h_iconst (n := 684) (3 : Int32) C dL_law_683 (by decide) rfl ?_
  refine h_iadd (n := 685) C dL_law_684 rfl ?_
  refine q_sld (n := 686) (j := i + 3) (nI_add i 3) (by omega) hL C hX hbl hbA dL_law_685 rfl ?_
  refine q_callVi (n := 689) (kd := 9) (a := 0) (M := N) (As := [.int (xv (i + 1)), .int (xv (i + 2)), .int (xv (i + 3))]) (rest := [.int r]) (post := fun r2 N' => r2 = (fSeason s (xv (i + 1)) (xv (i + 2)) (xv (i + 3))).1 ∧ RM (fSeason s (xv (i + 1)) (xv (i + 2)) (xv (i + 3))).2 N') (Pr1 := fun N' H => LPP Zx Zm M' N' H) C Em hAm (c_MD_season hZm _ (xv (i + 1)) (xv (i + 2)) (xv (i + 3)) N _ (ty_season (xv (i + 1)) (xv (i + 2)) (xv (i + 3)) T s N _ J R2 (fun N' R' => ⟨rfl, R'⟩))) yi_X9_season we_1109 rfl (om_0 hZm) ⟨(Nat.le_of_ble_eq_true rfl), (Nat.le_of_ble_eq_true rfl)⟩ (Nat.le_of_ble_eq_true rfl) hcc hss (fun H h => h.2) (fun H H1 N' h hw hk => ⟨Wd_kept h.1 (fun a ha hx => hk a ha (fun hm => hd a hx hm)), hw⟩) dL_law_686 rfl rfl (fun r2 N' h => ?_)
  obtain ⟨hr2, R2'⟩ := h
  refine h_icmp_eq (n := 692) (tgt := 743) C dL_law_689 (by decide) rfl (fun c => ?_) (fun c => absurd (hr1.trans hr2.symm) c)
  exact ih _ M' N' (tj_season (xv (i + 1)) (xv (i + 2)) (xv (i + 3)) T s J hT) R' R2'
set_option maxHeartbeats 4000000 in
set_option maxRecDepth 100000 in
theorem lc_22 {Zx Zm : ZT} {A : Nat → Prop} {X : XT} {b L i T : Nat} {xv : Nat → Int32} {s : ST} {M N : Mem} (W0 : LXX Zx Zm A X b L xv) (hi : i + 4 ≤ L) (J : JX T s) (R : RX s M) (R2 : RM s N) (hT : T + 24 < 2 ^ 20) (ih : ∀ (s' : ST) (M' N' : Mem), JX (T + 24) s' → RX s' M' → RM s' N' → GW (LPP Zx Zm M' N') A X 180 2338 743 [(3, .int (nI i)), (0, .ref b), (1, .ref (zb Zx + 0)), (2, .ref (zb Zm + 0))] []) : GW (LPP Zx Zm M N) A X 180 2338 694 [(3, .int (nI i)), (0, .ref b), (1, .ref (zb Zx + 0)), (2, .ref (zb Zm + 0))] [] := by
  obtain ⟨hZx, hZm, C, Ex, Em, hX, hbl, hbA, hAx, hAm, hd, hcc, hss, hL⟩ := W0
  refine h_aload_n (n := 695) (i := 1) C dL_law_694 rfl 2 rfl rfl ?_
  refine q_callVi (n := 698) (kd := 8) (a := 0) (M := M) (As := []) (rest := []) (post := fun r M' => r = (fKeep s).1 ∧ RX (fKeep s).2 M') (Pr1 := fun M' H => LPP Zx Zm M' N H) C Ex hAx (c_NB_keep hZx _ M _ (tx_keep T s M _ J R (fun M' R' => ⟨rfl, R'⟩))) yi_X8_keep we_796 rfl (ox_0 hZx) ⟨(Nat.le_of_ble_eq_true rfl), (Nat.le_of_ble_eq_true rfl)⟩ (Nat.le_of_ble_eq_true rfl) hcc hss (fun H h => h.1) (fun H H1 M' h hw hk => ⟨hw, Wd_kept h.2 (fun a ha hm => hk a ha (fun hx => hd a hx hm))⟩) dL_law_695 rfl rfl (fun r M' h => ?_)
  obtain ⟨hr1, R'⟩ := h
  refine h_aload_n (n := 699) (i := 2) C dL_law_698 rfl 3 rfl rfl ?_
  refine q_callVi (n := 702) (kd := 9) (a := 0) (M := N) (As := []) (rest := [.int r]) (post := fun r2 N' => r2 = (fKeep s).1 ∧ RM (fKeep s).2 N') (Pr1 := fun N' H => LPP Zx Zm M' N' H) C Em hAm (c_MD_keep hZm _ N _ (ty_keep T s N _ J R2 (fun N' R' => ⟨rfl, R'⟩))) yi_X9_keep we_1126 rfl (om_0 hZm) ⟨(Nat.le_of_ble_eq_true rfl), (Nat.le_of_ble_eq_true rfl)⟩ (Nat.le_of_ble_eq_true rfl) hcc hss (fun H h => h.2) (fun H H1 N' h hw hk => ⟨Wd_kept h.1 (fun a ha hx => hk a ha (fun hm => hd a hx hm)), hw⟩) dL_law_699 rfl rfl (fun r2 N' h => ?_)
  obtain ⟨hr2, R2'⟩ := h
  refine h_icmp_eq (n := 705) (tgt := 743) C dL_law_702 (by decide) rfl (fun c => ?_) (fun c => absurd (hr1.trans hr2.symm) c)
  exact ih _ M' N' (tj_keep T s J hT) R' R2'
set_option maxHeartbeats 4000000 in
set_option maxRecDepth 100000 in
theorem lc_23 {Zx Zm : ZT} {A : Nat → Prop} {X : XT} {b L i T : Nat} {xv : Nat → Int32} {s : ST} {M N : Mem} (W0 : LXX Zx Zm A X b L xv) (hi : i + 4 ≤ L) (J : JX T s) (R : RX s M) (R2 : RM s N) (hT : T + 24 < 2 ^ 20) (ih : ∀ (s' : ST) (M' N' : Mem), JX (T + 24) s' → RX s' M' → RM s' N' → GW (LPP Zx Zm M' N') A X 180 2338 743 [(3, .int (nI i)), (0, .ref b), (1, .ref (zb Zx + 0)), (2, .ref (zb Zm + 0))] []) : GW (LPP Zx Zm M N) A X 180 2338 707 [(3, .int (nI i)), (0, .ref b), (1, .ref (zb Zx + 0)), (2, .ref (zb Zm + 0))] [] := by
  obtain ⟨hZx, hZm, C, Ex, Em, hX, hbl, hbA, hAx, hAm, hd, hcc, hss, hL⟩ := W0
  refine h_aload_n (n := 708) (i := 1) C dL_law_707 rfl 2 rfl rfl ?_
  refine q_callVi (n := 711) (kd := 8) (a := 0) (M := M) (As := []) (rest := []) (post := fun r M' => r = (fBack s).1 ∧ RX (fBack s).2 M') (Pr1 := fun M' H => LPP Zx Zm M' N H) C Ex hAx (c_NB_back hZx _ M _ (tx_back T s M _ J R (fun M' R' => ⟨rfl, R'⟩))) yi_X8_back we_801 rfl (ox_0 hZx) ⟨(Nat.le_of_ble_eq_true rfl), (Nat.le_of_ble_eq_true rfl)⟩ (Nat.le_of_ble_eq_true rfl) hcc hss (fun H h => h.1) (fun H H1 M' h hw hk => ⟨hw, Wd_kept h.2 (fun a ha hm => hk a ha (fun hx => hd a hx hm))⟩) dL_law_708 rfl rfl (fun r M' h => ?_)
  obtain ⟨hr1, R'⟩ := h
  refine h_aload_n (n := 712) (i := 2) C dL_law_711 rfl 3 rfl rfl ?_
  refine q_callVi (n := 715) (kd := 9) (a := 0) (M := N) (As := []) (rest := [.int r]) (post := fun r2 N' => r2 = (fBack s).1 ∧ RM (fBack s).2 N') (Pr1 := fun N' H => LPP Zx Zm M' N' H) C Em hAm (c_MD_back hZm _ N _ (ty_back T s N _ J R2 (fun N' R' => ⟨rfl, R'⟩))) yi_X9_back we_1130 rfl (om_0 hZm) ⟨(Nat.le_of_ble_eq_true rfl), (Nat.le_of_ble_eq_true rfl)⟩ (Nat.le_of_ble_eq_true rfl) hcc hss (fun H h => h.2) (fun H H1 N' h hw hk => ⟨Wd_kept h.1 (fun a ha hx => hk a ha (fun hm => hd a hx hm)), hw⟩) dL_law_712 rfl rfl (fun r2 N' h => ?_)
  obtain ⟨hr2, R2'⟩ := h
  refine h_icmp_eq (n := 718) (tgt := 743) C dL_law_715 (by decide) rfl (fun c => ?_) (fun c => absurd (hr1.trans hr2.symm) c)
  exact ih _ M' N' (tj_back T s J hT) R' R2'
set_option maxHeartbeats 4000000 in
set_option maxRecDepth 100000 in
theorem lc_24 {Zx Zm : ZT} {A : Nat → Prop} {X : XT} {b L i T : Nat} {xv : Nat → Int32} {s : ST} {M N : Mem} (W0 : LXX Zx Zm A X b L xv) (hi : i + 4 ≤ L) (J : JX T s) (R : RX s M) (R2 : RM s N) (hT : T + 24 < 2 ^ 20) (ih : ∀ (s' : ST) (M' N' : Mem), JX (T + 24) s' → RX s' M' → RM s' N' → GW (LPP Zx Zm M' N') A X 180 2338 743 [(3, .int (nI i)), (0, .ref b), (1, .ref (zb Zx + 0)), (2, .ref (zb Zm + 0))] []) : GW (LPP Zx Zm M N) A X 180 2338 720 [(3, .int (nI i)), (0, .ref b), (1, .ref (zb Zx + 0)), (2, .ref (zb Zm + 0))] [] := by
  obtain ⟨hZx, hZm, C, Ex, Em, hX, hbl, hbA, hAx, hAm, hd, hcc, hss, hL⟩ := W0
  refine h_aload_n (n := 721) (i := 1) C dL_law_720 rfl 2 rfl rfl ?_
  refine h_aload_n (n := 722) (i := 0) C dL_law_721 rfl 1 rfl rfl ?_
  refine h_iload_n (n := 723) (i := 3) C dL_law_722 rfl 0 rfl rfl ?_
  refine h_iconst (n := 724) (1 : Int32) C dL_law_723 (by decide) rfl ?_
  refine h_iadd (n := 725) C dL_law_724 rfl ?_
  refine q_sld (n := 726) (j := i + 1) (nI_add i 1) (by omega) hL C hX hbl hbA dL_law_725 rfl ?_
  refine q_callVi (n := 729) (kd := 8) (a := 0) (M := M) (As := [.int (xv (i + 1))]) (rest := []) (post := fun r M' => r = (fCount s (xv (i + 1))).1 ∧ RX (fCount s (xv (i + 1))).2 M') (Pr1 := fun M' H => LPP Zx Zm M' N H) C Ex hAx (c_NB_count hZx _ (xv (i + 1)) M _ (tx_count (xv (i + 1)) T s M _ J R (fun M' R' => ⟨rfl, R'⟩))) yi_X8_count we_805 rfl (ox_0 hZx) ⟨(Nat.le_of_ble_eq_true rfl), (Nat.le_of_ble_eq_true rfl)⟩ (Nat.le_of_ble_eq_true rfl) hcc hss (fun H h => h.1) (fun H H1 M' h hw hk => ⟨hw, Wd_kept h.2 (fun a ha hm => hk a ha (fun hx => hd a hx hm))⟩) dL_law_726 rfl rfl (fun r M' h => ?_)
  obtain ⟨hr1, R'⟩ := h
  refine h_aload_n (n := 730) (i := 2) C dL_law_729 rfl 3 rfl rfl ?_
  refine h_aload_n (n := 731) (i := 0) C dL_law_730 rfl 1 rfl rfl ?_
  refine h_iload_n (n := 732) (i := 3) C dL_law_731 rfl 0 rfl rfl ?_
  refine h_iconst (n := 733) (1 : Int32) C dL_law_732 (by decide) rfl ?_
  refine h_iadd (n := 734) C dL_law_733 rfl ?_
  refine q_sld (n := 735) (j := i + 1) (nI_add i 1) (by omega) hL C hX hbl hbA dL_law_734 rfl ?_
  refine q_callVi (n := 738) (kd := 9) (a := 0) (M := N) (As := [.int (xv (i + 1))]) (rest := [.int r]) (post := fun r2 N' => r2 = (fCount s (xv (i + 1))).1 ∧ RM (fCount s (xv (i + 1))).2 N') (Pr1 := fun N' H => LPP Zx Zm M' N' H) C Em hAm (c_MD_count hZm _ (xv (i + 1)) N _ (ty_count (xv (i + 1)) T s N _ J R2 (fun N' R' => ⟨rfl, R'⟩))) yi_X9_count we_1134 rfl (om_0 hZm) ⟨(Nat.le_of_ble_eq_true rfl), (Nat.le_of_ble_eq_true rfl)⟩ (Nat.le_of_ble_eq_true rfl) hcc hss (fun H h => h.2) (fun H H1 N' h hw hk => ⟨Wd_kept h.1 (fun a ha hx => hk a ha (fun hm => hd a hx hm)), hw⟩) dL_law_735 rfl rfl (fun r2 N' h => ?_)
  obtain ⟨hr2, R2'⟩ := h
  refine h_icmp_eq (n := 741) (tgt := 743) C dL_law_738 (by decide) rfl (fun c => ?_) (fun c => absurd (hr1.trans hr2.symm) c)
  exact ih _ M' N' (tj_count (xv (i + 1)) T s J hT) R' R2'
set_option maxHeartbeats 4000000 in
set_option maxRecDepth 100000 in
theorem law_loop {Zx Zm : ZT} {A : Nat → Prop} {X : XT} {b L : Nat} {xv : Nat → Int32} (W0 : LXX Zx Zm A X b L xv) (kend : ∀ (M N : Mem) (lv : List (Nat × Value)), GW (LPP Zx Zm M N) A X 180 2338 749 lv []) : ∀ (m i : Nat) (s : ST) (M N : Mem), i ≤ L → L ≤ i + 4 * m → JX (6 * i) s → RX s M → RM s N → GW (LPP Zx Zm M N) A X 180 2338 18 [(3, .int (nI i)), (0, .ref b), (1, .ref (zb Zx + 0)), (2, .ref (zb Zm + 0))] [] := by
  obtain ⟨hZx, hZm, C, Ex, Em, hX, hbl, hbA, hAx, hAm, hd, hcc, hss, hL⟩ := id W0
  intro m
  induction m with
  | zero =>
    intro i s M N hi hm J R R2
    refine h_iload_n (n := 19) (i := 3) C dL_law_18 rfl 0 rfl rfl ?_
    refine h_aload_n (n := 20) (i := 0) C dL_law_19 rfl 1 rfl rfl ?_
    refine q_slen (n := 21) C hX hbl hbA dL_law_20 rfl ?_
    refine h_iconst (n := 22) (4 : Int32) C dL_law_21 (by decide) rfl ?_
    refine h_isub (n := 23) C dL_law_22 rfl ?_
    refine h_icmp_gt (n := 26) (tgt := 749) C dL_law_23 (by decide) rfl (fun c => kend M N _) (fun c => ?_)
    have := le4 (by omega) hL c
    omega
  | succ m ihm =>
    intro i s M N hi hm J R R2
    refine h_iload_n (n := 19) (i := 3) C dL_law_18 rfl 0 rfl rfl ?_
    refine h_aload_n (n := 20) (i := 0) C dL_law_19 rfl 1 rfl rfl ?_
    refine q_slen (n := 21) C hX hbl hbA dL_law_20 rfl ?_
    refine h_iconst (n := 22) (4 : Int32) C dL_law_21 (by decide) rfl ?_
    refine h_isub (n := 23) C dL_law_22 rfl ?_
    refine h_icmp_gt (n := 26) (tgt := 749) C dL_law_23 (by decide) rfl (fun c => kend M N _) (fun c => ?_)
    have h4 := le4 (by omega) hL c
    have hT : 6 * i + 24 < 2 ^ 20 := by omega
    have ih : ∀ (s' : ST) (M' N' : Mem), JX (6 * i + 24) s' → RX s' M' → RM s' N' → GW (LPP Zx Zm M' N') A X 180 2338 743 [(3, .int (nI i)), (0, .ref b), (1, .ref (zb Zx + 0)), (2, .ref (zb Zm + 0))] [] := by
      intro s' M' N' J' R' R2'
      refine h_iinc (n := 746) (i := 3) (v := (4 : Int32)) (lv' := [(0, .ref b), (1, .ref (zb Zx + 0)), (2, .ref (zb Zm + 0))]) C dL_law_743 0 rfl (by decide) (by decide) rfl rfl (fun z ez => ?_)
      have ez : z = nI (i + 4) := ez.trans (nI_add i 4)
      subst ez
      refine h_goto (tgt := 18) C dL_law_746 (by decide) ?_
      exact ihm (i + 4) s' M' N' h4 (by omega) (by rw [show 6 * (i + 4) = 6 * i + 24 by omega]; exact J') R' R2'
    refine h_aload_n (n := 27) (i := 0) C dL_law_26 rfl 1 rfl rfl ?_
    refine h_iload_n (n := 28) (i := 3) C dL_law_27 rfl 0 rfl rfl ?_
    refine q_sld (n := 29) (j := i) rfl (by omega) hL C hX hbl hbA dL_law_28 rfl ?_
    refine h_bipush (n := 31) (31 : Int32) C dL_law_29 (by decide) rfl ?_
    refine h_iand (n := 32) C dL_law_31 rfl ?_
    obtain ⟨j, hj, ej⟩ := pk_andE (xv i) (m := 31) 5 (by decide)
    rw [ej]
    rcases (show j = 0 ∨ j = 1 ∨ j = 2 ∨ j = 3 ∨ j = 4 ∨ j = 5 ∨ j = 6 ∨ j = 7 ∨ j = 8 ∨ j = 9 ∨ j = 10 ∨ j = 11 ∨ j = 12 ∨ j = 13 ∨ j = 14 ∨ j = 15 ∨ j = 16 ∨ j = 17 ∨ j = 18 ∨ j = 19 ∨ j = 20 ∨ j = 21 ∨ j = 22 ∨ j = 23 ∨ j = 24 ∨ j = 25 ∨ j = 26 ∨ j = 27 ∨ j = 28 ∨ j = 29 ∨ j = 30 ∨ j = 31 by omega) with rfl | rfl | rfl | rfl | rfl | rfl | rfl | rfl | rfl | rfl | rfl | rfl | rfl | rfl | rfl | rfl | rfl | rfl | rfl | rfl | rfl | rfl | rfl | rfl | rfl | rfl | rfl | rfl | rfl | rfl | rfl | rfl
    · exact h_tableIn (v := (0 : Int32)) (off := 116) (tgt := 148) C dL_law_32 rfl (by decide) (by decide) (by decide) (by decide) (lc_0 W0 h4 J R R2 hT ih)
    · exact h_tableIn (v := (1 : Int32)) (off := 139) (tgt := 171) C dL_law_32 rfl (by decide) (by decide) (by decide) (by decide) (lc_1 W0 h4 J R R2 hT ih)
    · exact h_tableIn (v := (2 : Int32)) (off := 152) (tgt := 184) C dL_law_32 rfl (by decide) (by decide) (by decide) (by decide) (lc_2 W0 h4 J R R2 hT ih)
    · exact h_tableIn (v := (3 : Int32)) (off := 165) (tgt := 197) C dL_law_32 rfl (by decide) (by decide) (by decide) (by decide) (lc_3 W0 h4 J R R2 hT ih)
    · exact h_tableIn (v := (4 : Int32)) (off := 178) (tgt := 210) C dL_law_32 rfl (by decide) (by decide) (by decide) (by decide) (lc_4 W0 h4 J R R2 hT ih)
    · exact h_tableIn (v := (5 : Int32)) (off := 211) (tgt := 243) C dL_law_32 rfl (by decide) (by decide) (by decide) (by decide) (lc_5 W0 h4 J R R2 hT ih)
    · exact h_tableIn (v := (6 : Int32)) (off := 244) (tgt := 276) C dL_law_32 rfl (by decide) (by decide) (by decide) (by decide) (lc_6 W0 h4 J R R2 hT ih)
    · exact h_tableIn (v := (7 : Int32)) (off := 267) (tgt := 299) C dL_law_32 rfl (by decide) (by decide) (by decide) (by decide) (lc_7 W0 h4 J R R2 hT ih)
    · exact h_tableIn (v := (8 : Int32)) (off := 300) (tgt := 332) C dL_law_32 rfl (by decide) (by decide) (by decide) (by decide) (lc_8 W0 h4 J R R2 hT ih)
    · exact h_tableIn (v := (9 : Int32)) (off := 323) (tgt := 355) C dL_law_32 rfl (by decide) (by decide) (by decide) (by decide) (lc_9 W0 h4 J R R2 hT ih)
    · exact h_tableIn (v := (10 : Int32)) (off := 356) (tgt := 388) C dL_law_32 rfl (by decide) (by decide) (by decide) (by decide) (lc_10 W0 h4 J R R2 hT ih)
    · exact h_tableIn (v := (11 : Int32)) (off := 369) (tgt := 401) C dL_law_32 rfl (by decide) (by decide) (by decide) (by decide) (lc_11 W0 h4 J R R2 hT ih)
    · exact h_tableIn (v := (12 : Int32)) (off := 392) (tgt := 424) C dL_law_32 rfl (by decide) (by decide) (by decide) (by decide) (lc_12 W0 h4 J R R2 hT ih)
    · exact h_tableIn (v := (13 : Int32)) (off := 415) (tgt := 447) C dL_law_32 rfl (by decide) (by decide) (by decide) (by decide) (lc_13 W0 h4 J R R2 hT ih)
    · exact h_tableIn (v := (14 : Int32)) (off := 448) (tgt := 480) C dL_law_32 rfl (by decide) (by decide) (by decide) (by decide) (lc_14 W0 h4 J R R2 hT ih)
    · exact h_tableIn (v := (15 : Int32)) (off := 461) (tgt := 493) C dL_law_32 rfl (by decide) (by decide) (by decide) (by decide) (lc_15 W0 h4 J R R2 hT ih)
    · exact h_tableIn (v := (16 : Int32)) (off := 484) (tgt := 516) C dL_law_32 rfl (by decide) (by decide) (by decide) (by decide) (lc_16 W0 h4 J R R2 hT ih)
    · exact h_tableIn (v := (17 : Int32)) (off := 507) (tgt := 539) C dL_law_32 rfl (by decide) (by decide) (by decide) (by decide) (lc_17 W0 h4 J R R2 hT ih)
    · exact h_tableIn (v := (18 : Int32)) (off := 540) (tgt := 572) C dL_law_32 rfl (by decide) (by decide) (by decide) (by decide) (lc_18 W0 h4 J R R2 hT ih)
    · exact h_tableIn (v := (19 : Int32)) (off := 553) (tgt := 585) C dL_law_32 rfl (by decide) (by decide) (by decide) (by decide) (lc_19 W0 h4 J R R2 hT ih)
    · exact h_tableIn (v := (20 : Int32)) (off := 576) (tgt := 608) C dL_law_32 rfl (by decide) (by decide) (by decide) (by decide) (lc_20 W0 h4 J R R2 hT ih)
    · exact h_tableIn (v := (21 : Int32)) (off := 619) (tgt := 651) C dL_law_32 rfl (by decide) (by decide) (by decide) (by decide) (lc_21 W0 h4 J R R2 hT ih)
    · exact h_tableIn (v := (22 : Int32)) (off := 662) (tgt := 694) C dL_law_32 rfl (by decide) (by decide) (by decide) (by decide) (lc_22 W0 h4 J R R2 hT ih)
    · exact h_tableIn (v := (23 : Int32)) (off := 675) (tgt := 707) C dL_law_32 rfl (by decide) (by decide) (by decide) (by decide) (lc_23 W0 h4 J R R2 hT ih)
    · exact h_tableIn (v := (24 : Int32)) (off := 688) (tgt := 720) C dL_law_32 rfl (by decide) (by decide) (by decide) (by decide) (lc_24 W0 h4 J R R2 hT ih)
    · exact h_tableOut (tgt := 743) C dL_law_32 (by decide) (by decide) (ih s M N (j_same J hT) R R2)
    · exact h_tableOut (tgt := 743) C dL_law_32 (by decide) (by decide) (ih s M N (j_same J hT) R R2)
    · exact h_tableOut (tgt := 743) C dL_law_32 (by decide) (by decide) (ih s M N (j_same J hT) R R2)
    · exact h_tableOut (tgt := 743) C dL_law_32 (by decide) (by decide) (ih s M N (j_same J hT) R R2)
    · exact h_tableOut (tgt := 743) C dL_law_32 (by decide) (by decide) (ih s M N (j_same J hT) R R2)
    · exact h_tableOut (tgt := 743) C dL_law_32 (by decide) (by decide) (ih s M N (j_same J hT) R R2)
    · exact h_tableOut (tgt := 743) C dL_law_32 (by decide) (by decide) (ih s M N (j_same J hT) R R2)
