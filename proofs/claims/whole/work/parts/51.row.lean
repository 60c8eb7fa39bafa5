/-! rows of the class -/
theorem i32_in {i : Int32} {n : Nat} (h0 : ¬ i < 0) (h : i < nI n) (hn : n < 2 ^ 31) : i.toNatClampNeg < n := by
  obtain ⟨j, hj, rfl⟩ := nI_of h0
  rw [nI_clamp hj]
  exact (nI_ltI hj hn).mp h
theorem i32_out {i : Int32} {n : Nat} (h0 : ¬ i < 0) (h : ¬ i < nI n) (hn : n < 2 ^ 31) : n ≤ i.toNatClampNeg := by
  obtain ⟨j, hj, rfl⟩ := nI_of h0
  rw [nI_clamp hj]
  exact Nat.not_lt.mp (fun z => h ((nI_ltI hj hn).mpr z))
def isRow (r : Nat) : Prop := sh_L[r]? = some (sh_row r) ∧ sh_L[r + 1]? = some (.inr (.inl 0))
/-- the row at r holds xs; behind them lies jk in its array -/
def Rw (S : st_S) (V : st_V) (r : Nat) (xs jk : List Int32) : Prop := isRow r ∧ S r 1 = nI xs.length ∧ V (r + 1) = xs ++ jk ∧ xs.length + jk.length ≤ 1000
def rAt (xs : List Int32) (i : Int32) : Int32 := if i < 0 then 0 else xs.getD i.toNatClampNeg 0
theorem rAt_n {xs : List Int32} {n : Nat} (h : n < 2 ^ 31) : rAt xs (nI n) = xs.getD n 0 := by
  unfold rAt
  rw [if_neg (nI_pos h), nI_clamp h]
section ROW
variable {d : Nat} {S : st_S} {V : st_V} {r : Nat} {xs jk : List Int32}
theorem rw_g1 (H : Rw S V r xs jk) : am_get (hs S V) r 0 1 = some (.int (nI xs.length)) := by
  rw [hs_get H.1.1 rfl, H.2.1]
theorem rw_g0 (H : Rw S V r xs jk) : am_get (hs S V) r 0 0 = some (.ref (r + 1)) := hs_getr H.1.1 rfl
theorem rw_is (H : Rw S V r xs jk) : am_is (hs S V) r 0 = true := hs_is H.1.1
theorem ev_at {i : Int32} (H : Rw S V r xs jk) : ev d 5 [.ref r, .int i] (hs S V) = some (some (.int (rAt xs i)), hs S V) := by
  have g1 := rw_g1 H
  have g0 := rw_g0 H
  simp only [e_Row_at, x_Row_at_0, x_Row_at_1, x_Row_at_4, x_Row_at_5, x_Row_at_6, x_Row_at_9, x_Row_at_12, x_Row_at_13, x_Row_at_16, x_Row_at_17, x_Row_at_18, x_Row_at_21, x_Row_at_22, g1, g0, Option.bind_some]
  unfold rAt
  have hN : xs.length < 2 ^ 31 := by have := H.2.2.2; omega
  split
  · rfl
  · rename_i h0
    split
    · rename_i h1
      have hi := i32_in h0 h1 hN
      rw [hs_ld H.1.2 h0, H.2.2.1, List.getElem?_append_left hi, List.getElem?_eq_getElem hi]
      simp [List.getD, hi]
    · rename_i h1
      have hi := i32_out h0 h1 hN
      simp [List.getD, List.getElem?_eq_none hi]
theorem ev_clear (H : Rw S V r xs jk) : ev d 1 [.ref r] (hs S V) = some (none, hs (uS S r 1 0) V) := by
  have p1 : am_put (hs S V) r 0 1 (.int 0) = some (hs (uS S r 1 0) V) := hs_put H.1.1 rfl
  simp only [e_Row_clear, x_Row_clear_0, x_Row_clear_1, x_Row_clear_2, x_Row_clear_5, p1, Option.bind_some]
theorem ev_add {v j : Int32} (H : Rw S V r xs (j :: jk)) : ev d 2 [.ref r, .int v] (hs S V) = some (none, hs (uS S r 1 (nI (xs.length + 1))) (uV V (r + 1) (xs ++ v :: jk))) := by
  have g1 := rw_g1 H
  have g0 := rw_g0 H
  have hN : xs.length + (jk.length + 1) ≤ 1000 := H.2.2.2
  have hL : am_len (hs S V) (r + 1) = some (nI (xs.length + (jk.length + 1))) := by
    rw [hs_len H.1.2 rfl, H.2.2.1]; simp [nI]
  have c1 : nI xs.length < nI (xs.length + (jk.length + 1)) := nI_lt (by omega) (by omega)
  have cl : (nI xs.length).toNatClampNeg = xs.length := nI_clamp (by omega)
  have sv : am_sv (hs S V) (r + 1) 0 (nI xs.length) v = some (hs S (uV V (r + 1) (xs ++ v :: jk))) := by
    rw [hs_sv H.1.2 (nI_pos (by omega)) (by rw [cl, H.2.2.1]; simp), cl, H.2.2.1]
    simp
  have g1' : am_get (hs S (uV V (r + 1) (xs ++ v :: jk))) r 0 1 = some (.int (nI xs.length)) := by
    rw [hs_get H.1.1 rfl, H.2.1]
  have p1 : am_put (hs S (uV V (r + 1) (xs ++ v :: jk))) r 0 1 (.int (nI xs.length + 1)) = some (hs (uS S r 1 (nI (xs.length + 1))) (uV V (r + 1) (xs ++ v :: jk))) := by
    rw [nI_1]; exact hs_put H.1.1 rfl
  simp only [e_Row_add, x_Row_add_0, x_Row_add_1, x_Row_add_4, x_Row_add_5, x_Row_add_8, x_Row_add_9, x_Row_add_12, x_Row_add_13, x_Row_add_16, x_Row_add_17, x_Row_add_20, x_Row_add_21, x_Row_add_22, x_Row_add_23, x_Row_add_23', x_Row_add_24, x_Row_add_27, x_Row_add_28, x_Row_add_29, x_Row_add_32, g1, g0, hL, sv, g1', p1, Option.bind_some, c1, if_true]
theorem rw_add {v j : Int32} (H : Rw S V r xs (j :: jk)) : Rw (uS S r 1 (nI (xs.length + 1))) (uV V (r + 1) (xs ++ v :: jk)) r (xs ++ [v]) jk := by
  refine ⟨H.1, by rw [uS_self]; simp, by rw [uV_self]; simp, ?_⟩
  have := H.2.2.2
  simp at this ⊢
  omega
theorem rw_clear (H : Rw S V r xs jk) : Rw (uS S r 1 0) V r [] (xs ++ jk) := by
  refine ⟨H.1, by rw [uS_self]; rfl, by rw [H.2.2.1]; rfl, ?_⟩
  have := H.2.2.2
  simp
  omega
end ROW
