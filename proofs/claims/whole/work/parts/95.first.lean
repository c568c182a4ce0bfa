section
variable {N : Mem} {t : GT}
theorem m_addG {v0 v1 v2 v3 v4 : Nat} {post : Mem → Prop} (D : MD2 N t) (h7 : t.1.length < 7) (k : ∀ N', MD2 N' (t.1 ++ [[v0, v1, v2, v3, v4]], t.2) → GF N N' → post N') : P_MD_addsGuest N (nI v0) (nI v1) (nI v2) (nI v3) (nI v4) post := by
  unfold P_MD_addsGuest B_MD_addsGuest_i
  obtain ⟨d1, d2, d3, d4⟩ := D
  rw [d1]
  simp (disch := omega) only [show (5 : Int32) = nI 5 from rfl, l3, show (4 : Int32) = nI 4 from rfl, l2, pk_mul, nI_add, nI_1, cl, forall_eq, ms_k, d1]
  refine ⟨vin (by omega) (by decide), vin (by omega) (by decide), vin (by omega) (by decide), vin (by omega) (by decide), vin (by omega) (by decide), k _ ⟨?_, ?_, fun j hj d hd => ?_, fun j hj => ?_⟩ ((((((GF.rf.set9 (by omega)).set9 (by omega)).set9 (by omega)).set9 (by omega)).set9 (by omega)).set0 (by omega))⟩
  · rw [ms_s, List.length_append]; rfl
  · rw [ms_j (by decide), ms_k (by decide), ms_k (by decide), ms_k (by decide), ms_k (by decide), ms_k (by decide)]; exact d2
  · rw [ms_k (by decide)]
    have hj : j < (t.1 ++ [[v0, v1, v2, v3, v4]]).length := hj
    rw [List.length_append, List.length_singleton] at hj
    show _ = nI (((t.1 ++ [[v0, v1, v2, v3, v4]]).getD j []).getD d 0)
    by_cases c : j = t.1.length
    · subst c
      have e : (t.1 ++ [[v0, v1, v2, v3, v4]]).getD t.1.length [] = [v0, v1, v2, v3, v4] := by
        rw [List.getD_eq_getElem?_getD, List.getElem?_append_right (Nat.le_refl _), Nat.sub_self]; rfl
      rw [e]
      rcases (show d = 0 ∨ d = 1 ∨ d = 2 ∨ d = 3 ∨ d = 4 by omega) with rfl | rfl | rfl | rfl | rfl
      · rw [ms_j (by omega), ms_j (by omega), ms_j (by omega), ms_j (by omega), Nat.add_zero, ms_s]; rfl
      · rw [ms_j (by omega), ms_j (by omega), ms_j (by omega), ms_s]; rfl
      · rw [ms_j (by omega), ms_j (by omega), ms_s]; rfl
      · rw [ms_j (by omega), ms_s]; rfl
      · rw [ms_s]; rfl
    · have e : (t.1 ++ [[v0, v1, v2, v3, v4]]).getD j [] = t.1.getD j [] := by
        rw [List.getD_eq_getElem?_getD, List.getElem?_append_left (by omega), ← List.getD_eq_getElem?_getD]
      rw [ms_j (by omega), ms_j (by omega), ms_j (by omega), ms_j (by omega), ms_j (by omega), e]
      exact d3 j (by omega) d hd
  · rw [ms_k (by decide), mset_ne (by decide), mset_ne (by decide), mset_ne (by decide), mset_ne (by decide), mset_ne (by decide)]
    exact d4 j hj
end
/-- the first plan -/
def t0 : GT := ([[0, 2, 10, 4, 3], [1, 4, 8, 9, 2], [2, 5, 6, 0, 1], [0, 7, 12, 5, 4], [3, 7, 9, 2, 2], [0, 15, 5, 6, 3]], [2, 5, 1, 4, 0, 3])
def s0 : ST := mST (ptT t0) (htT t0) [] [] [] []
theorem ok0 : okT t0 := by
  refine ⟨by decide, by decide, fun l hl => ?_, by decide⟩
  have : l = [0, 2, 10, 4, 3] ∨ l = [1, 4, 8, 9, 2] ∨ l = [2, 5, 6, 0, 1] ∨ l = [0, 7, 12, 5, 4] ∨ l = [3, 7, 9, 2, 2] ∨ l = [0, 15, 5, 6, 3] := by
    have hl : l ∈ [[0, 2, 10, 4, 3], [1, 4, 8, 9, 2], [2, 5, 6, 0, 1], [0, 7, 12, 5, 4], [3, 7, 9, 2, 2], [0, 15, 5, 6, 3]] := hl
    simpa using hl
  rcases this with rfl | rfl | rfl | rfl | rfl | rfl <;> exact ⟨by decide, by decide, by decide, by decide, by decide, by decide⟩
theorem jx0 : JX 0 s0 := jx_mk (pw_T ok0) (by decide) ⟨⟨gv_T ok0, Nat.zero_le _⟩, fun g _ _ c' _ => by show 0 / 2 ^ g % 2 = 0; rw [Nat.zero_div]⟩ (fun h' hh => absurd hh List.not_mem_nil) (fun h' hh => absurd hh List.not_mem_nil) (Nat.zero_le _) (Nat.zero_le _) (Nat.zero_le _) (fun y hy => absurd hy List.not_mem_nil) (Nat.zero_le _) (fun y hy => absurd hy List.not_mem_nil) (by decide)
theorem m_new {N : Mem} {post : Mem → Prop} (h : N 0 12 = 0) (k : ∀ N', RM s0 N' → post N') : P_MD_starts N (fun N1 => P_MD_addsGuest N1 0 2 10 4 3 (fun N2 => P_MD_addsGuest N2 1 4 8 9 2 (fun N3 => P_MD_addsGuest N3 2 5 6 0 1 (fun N4 => P_MD_addsGuest N4 0 7 12 5 4 (fun N5 => P_MD_addsGuest N5 3 7 9 2 2 (fun N6 => P_MD_addsGuest N6 0 15 5 6 3 (fun N7 => P_MD_addsRoom N7 2 (fun N8 => P_MD_addsRoom N8 5 (fun N9 => P_MD_addsRoom N9 1 (fun N10 => P_MD_addsRoom N10 4 (fun N11 => P_MD_addsRoom N11 0 (fun N12 => P_MD_addsRoom N12 3 (fun N13 => P_MD_begins N13 post))))))))))))) := by
  refine m_starts (fun N1 D1 f1 => ?_)
  refine m_addG (v0 := 0) (v1 := 2) (v2 := 10) (v3 := 4) (v4 := 3) D1 (by decide) (fun N2 D2 f2 => ?_)
  refine m_addG (v0 := 1) (v1 := 4) (v2 := 8) (v3 := 9) (v4 := 2) D2 (by decide) (fun N3 D3 f3 => ?_)
  refine m_addG (v0 := 2) (v1 := 5) (v2 := 6) (v3 := 0) (v4 := 1) D3 (by decide) (fun N4 D4 f4 => ?_)
  refine m_addG (v0 := 0) (v1 := 7) (v2 := 12) (v3 := 5) (v4 := 4) D4 (by decide) (fun N5 D5 f5 => ?_)
  refine m_addG (v0 := 3) (v1 := 7) (v2 := 9) (v3 := 2) (v4 := 2) D5 (by decide) (fun N6 D6 f6 => ?_)
  refine m_addG (v0 := 0) (v1 := 15) (v2 := 5) (v3 := 6) (v4 := 3) D6 (by decide) (fun N7 D7 f7 => ?_)
  refine m_addR (v := 2) D7 (by decide) (fun N8 D8 f8 _ => ?_)
  refine m_addR (v := 5) D8 (by decide) (fun N9 D9 f9 _ => ?_)
  refine m_addR (v := 1) D9 (by decide) (fun N10 D10 f10 _ => ?_)
  refine m_addR (v := 4) D10 (by decide) (fun N11 D11 f11 _ => ?_)
  refine m_addR (v := 0) D11 (by decide) (fun N12 D12 f12 _ => ?_)
  refine m_addR (v := 3) D12 (by decide) (fun N13 D13 f13 _ => ?_)
  have F := ((((((((((((f1.tr f2).tr f3).tr f4).tr f5).tr f6).tr f7).tr f8).tr f9).tr f10).tr f11).tr f12).tr f13)
  refine m_begins (x := []) (t := t0) D13 ok0 ⟨?_, fun i c hc => (Option.some_ne_none c hc.symm).elim⟩ (fun N' R => k N' R)
  rw [F.1 12 (by decide) (by decide) (by decide) (by decide)]
  exact h
