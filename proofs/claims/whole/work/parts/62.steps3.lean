/-! one call on both sides: card -/
theorem uS_comm {S : st_S} {a k a' k' : Nat} {v v' : Int32} (h : ¬ (a = a' ∧ k = k')) : uS (uS S a k v) a' k' v' = uS (uS S a' k' v') a k v := by
  funext x y
  unfold uS
  by_cases h1 : x = a' ∧ y = k'
  · rw [if_pos h1, if_neg (fun z => h ⟨z.1.symm.trans h1.1, z.2.symm.trans h1.2⟩), if_pos h1]
  · rw [if_neg h1]
    by_cases h2 : x = a ∧ y = k
    · rw [if_pos h2, if_pos h2]
    · rw [if_neg h2, if_neg h2, if_neg h1]
theorem is3_ex {c : Int32} {a b : Nat} (hb : b < 2 ^ 31) (hab : a ≤ b) (h : ¬ is3 c (nI a) (nI b) = 0) : ∃ j, a ≤ j ∧ j ≤ b ∧ c = nI j := by
  unfold is3 at h
  by_cases h0 : c < nI a
  · rw [if_pos h0] at h; exact absurd rfl h
  · rw [if_neg h0] at h
    have hc : ¬ c < 0 := fun z => h0 (by
      rw [Int32.lt_iff_toInt_lt] at z ⊢
      rw [nI_toInt (by omega)]
      have : (0 : Int32).toInt = 0 := by decide
      omega)
    obtain ⟨j, hj, rfl⟩ := nI_of hc
    have h1 : a ≤ j := Nat.not_lt.mp (fun z => h0 (nI_lt z (by omega)))
    by_cases h2 : nI b < nI j
    · rw [if_pos h2] at h; exact absurd rfl h
    · exact ⟨j, h1, Nat.not_lt.mp (fun z => h2 (nI_lt z hj)), rfl⟩
section STEPS3
variable {S : st_S} {V : st_V}
theorem step_card (I : Inv S V) (c ad ap ke si : Int32) : Step 55 79 [.int c, .int ad, .int ap, .int ke, .int si] S V := by
  obtain ⟨C, R, F, J, T, P, X, M, B⟩ := id I
  by_cases h : wi c 4 = 0 ∨ wi ad 256 = 0 ∨ wi ap 8 = 0 ∨ is3 si 3 16 = 0
  · exact ⟨0, S, V, S, V, ev_card_no (d := 38) h, ev_mcard_no (d := 39) (by rw [← wi_4, ← wi_256, ← wi_8]; exact h), I⟩
  · have h1 : ¬ wi c 4 = 0 := fun z => h (Or.inl z)
    have h2 : ¬ wi ad 256 = 0 := fun z => h (Or.inr (Or.inl z))
    have h3 : ¬ wi ap 8 = 0 := fun z => h (Or.inr (Or.inr (Or.inl z)))
    have h4 : ¬ is3 si 3 16 = 0 := fun z => h (Or.inr (Or.inr (Or.inr z)))
    obtain ⟨j, hj, rfl⟩ := wi_ex (n := 4) (by decide) h1
    obtain ⟨p, hp, rfl⟩ := wi_ex (n := 8) (by decide) h3
    obtain ⟨z, hz1, hz2, rfl⟩ := is3_ex (a := 3) (b := 16) (by decide) (by decide) h4
    obtain ⟨m, hm, rfl⟩ := wi_oct h2
    refine ⟨1, rnS S (cb j) (nI m) (nI p) ke (nI z), V, rnS S (cb j) (nI m) (nI p) ke (nI z), mcV V j (nI m) (nI p) ke (nI z), ev_card (d := 38) hj h2 h3 h4, ev_mcard (d := 39) hj (by rw [← wi_256]; exact h2) (by rw [← wi_8]; exact h3) h4 (M.len (by decide)) (M.len (by decide)) (M.len (by decide)) (M.len (by decide)) (M.len (by decide)) (M.len (by decide)) (M.len (by decide)) (M.len (by decide)) (M.len (by decide)) (M.len (by decide)) (M.len (by decide)) (M.len (by decide)), ?_⟩
    have M1 : MX (rnS S (cb j) (nI m) (nI p) ke (nI z)) V C R F J T P := M.far (fun a k ha => by
      have e1 : ∀ l, ¬ (a = cb j ∧ k = l) := fun l w => cb_ne hj (a := a) (by omega) w.1.symm
      have e2 : ∀ r l, r < 3 → ¬ (a = rr (cb j) r ∧ k = l) := fun r l hr w => rr_ne hj hr (a := a) (by omega) w.1.symm
      unfold rnS
      rw [uS_ne (e2 2 _ (by decide)), uS_ne (e2 1 _ (by decide)), uS_ne (e2 0 _ (by decide)), uS_ne (e1 _), uS_ne (e1 _), uS_ne (e1 _), uS_ne (e1 _), uS_ne (e1 _), uS_ne (e1 _), uS_ne (e1 _), uS_ne (e1 _), uS_ne (e1 _), uS_ne (e1 _), uS_ne (e1 _)]) (fun a _ => rfl)
    refine ⟨uS (uS (uS (uS (uS (uS (uS (uS (uS (uS (uS C j 0 1) j 1 0) j 3 (nI m)) j 4 (nI p)) j 5 ke) j 6 (nI z)) j 7 0) j 8 2147483647) j 9 255) j 10 0) j 11 0, uV (uV (uV R (3 * j) []) (3 * j + 1) []) (3 * j + 2) [], F, J, T, P, ?_, ?_, ⟨fun i hi => ?_, fun i hi => ?_, B.2.2⟩⟩
    · have X1 := (((((((((((X.setC (k := 0) (v := 1) hj (by decide)).setC (k := 1) (v := 0) hj (by decide)).setC (k := 3) (v := nI m) hj (by decide)).setC (k := 4) (v := nI p) hj (by decide)).setC (k := 5) (v := ke) hj (by decide)).setC (k := 6) (v := nI z) hj (by decide)).setC (k := 7) (v := 0) hj (by decide)).setC (k := 8) (v := 2147483647) hj (by decide)).setC (k := 9) (v := 255) hj (by decide)).setC (k := 10) (v := 0) hj (by decide)).setC (k := 11) (v := 0) hj (by decide))
      have X2 := ((X1.clrR (r := 0) hj (by decide)).clrR (r := 1) hj (by decide)).clrR (r := 2) hj (by decide)
      refine X2.far (fun a _ _ => rfl) (fun a ha => ?_)
      unfold mcV
      rw [sV_ne (by omega), sV_ne (by omega), sV_ne (by omega), sV_ne (by omega), sV_ne (by omega), sV_ne (by omega), sV_ne (by omega), sV_ne (by omega), sV_ne (by omega), sV_ne (by omega), sV_ne (by omega), sV_ne (by omega), sV_ne (by omega), sV_ne (by omega)]
    · have M2 := (((((((((((M1.setC (k := 0) (v := 1) hj (by decide)).setC (k := 1) (v := 0) hj (by decide)).setC (k := 3) (v := nI m) hj (by decide)).setC (k := 4) (v := nI p) hj (by decide)).setC (k := 5) (v := ke) hj (by decide)).setC (k := 6) (v := nI z) hj (by decide)).setC (k := 7) (v := 0) hj (by decide)).setC (k := 10) (v := 0) hj (by decide)).setC (k := 11) (v := 0) hj (by decide)).setC (k := 8) (v := 2147483647) hj (by decide)).setC (k := 9) (v := 255) hj (by decide))
      have M3 := ((M2.clrR (i := 3 * j) (by omega)).clrR (i := 3 * j + 1) (by omega)).clrR (i := 3 * j + 2) (by omega)
      have n : ∀ a b : Nat, ¬ a = b → ¬ (j = j ∧ a = b) := fun a b h w => h w.2
      rw [uS_comm (k := 11) (k' := 8) (n 11 8 (by decide)), uS_comm (k := 10) (k' := 8) (n 10 8 (by decide)), uS_comm (k := 11) (k' := 9) (n 11 9 (by decide)), uS_comm (k := 10) (k' := 9) (n 10 9 (by decide))] at M3
      exact M3
    · by_cases hij : i = j
      · subst hij
        obtain ⟨b0, b1, b2, b3, b4, b5⟩ := B.1 i hi
        generalize hE : uS (uS (uS (uS (uS (uS (uS (uS (uS (uS (uS C i 0 1) i 1 0) i 3 (nI m)) i 4 (nI p)) i 5 ke) i 6 (nI z)) i 7 0) i 8 2147483647) i 9 255) i 10 0) i 11 0 = E
        have e0 : E i 0 = 1 := by rw [← hE]; simp [uS]
        have e1 : E i 1 = 0 := by rw [← hE]; simp [uS]
        have e2 : E i 2 = C i 2 := by rw [← hE]; simp [uS]
        have e3 : E i 3 = nI m := by rw [← hE]; simp [uS]
        have e4 : E i 4 = nI p := by rw [← hE]; simp [uS]
        have e6 : E i 6 = nI z := by rw [← hE]; simp [uS]
        have e7 : E i 7 = 0 := by rw [← hE]; simp [uS]
        unfold BC
        rw [e0, e1, e2, e3, e4, e6, e7]
        exact ⟨Or.inr rfl, Or.inl rfl, b2, fun _ => rfl, fun _ => ⟨⟨m, hm, rfl⟩, ⟨p, hp, rfl⟩, z, hz1, hz2, rfl⟩, 0, by decide, rfl⟩
      · have e : ∀ l, uS (uS (uS (uS (uS (uS (uS (uS (uS (uS (uS C j 0 1) j 1 0) j 3 (nI m)) j 4 (nI p)) j 5 ke) j 6 (nI z)) j 7 0) j 8 2147483647) j 9 255) j 10 0) j 11 0 i l = C i l := fun l => by
          have n : ∀ k, ¬ (i = j ∧ l = k) := fun k w => hij w.1
          rw [uS_ne (n _), uS_ne (n _), uS_ne (n _), uS_ne (n _), uS_ne (n _), uS_ne (n _), uS_ne (n _), uS_ne (n _), uS_ne (n _), uS_ne (n _), uS_ne (n _)]
        unfold BC
        rw [e 0, e 1, e 2, e 3, e 4, e 6, e 7]
        exact B.1 i hi
    · unfold uV
      split
      · exact ⟨by simp, fun x hx => by cases hx⟩
      · split
        · exact ⟨by simp, fun x hx => by cases hx⟩
        · split
          · exact ⟨by simp, fun x hx => by cases hx⟩
          · exact B.2.1 i hi
end STEPS3
