/-! one call on both sides -/
def Step (yx ym : Nat) (as : List Value) (S : st_S) (V : st_V) : Prop := ∃ (r : Int32) (S1 : st_S) (V1 : st_V) (S2 : st_S) (V2 : st_V), ev 40 yx (.ref 0 :: as) (hs S V) = some (some (.int r), hs S1 V1) ∧ ev 40 ym (.ref 93 :: as) (hs S1 V1) = some (some (.int r), hs S2 V2) ∧ Inv S2 V2
theorem uN_T {C : st_S} {R : st_V} {F : List Int32} {J : st_J} {T T' : Nat → Int32} (B : BX C R F J T) (h3 : B01 (T' 3)) (h2 : oct (T' 2)) (h5 : oct (T' 5)) : BX C R F J T' := ⟨B.1, B.2.1, B.2.2.1, h3, h2, h5⟩
theorem wi_oct {v : Int32} (h : ¬ wi v 256 = 0) : oct v := wi_ex (n := 256) (by decide) h
theorem nz_01 {x : Int32} (h : B01 x) : nz x = x := by
  rcases h with rfl | rfl <;> rfl
theorem b01_ok {x : Int32} (h : B01 x) : am_ok .boolean (.int x) = true := by
  rcases h with rfl | rfl
  · exact ob_0
  · exact ob_1
section STEPS
variable {S : st_S} {V : st_V}
theorem step_mix (I : Inv S V) (k a b c e : Int32) : Step 66 111 [.int k, .int a, .int b, .int c, .int e] S V :=
  ⟨_, S, V, S, V, ev_mix (d := 39), ev_mmix (d := 39), I⟩
theorem step_told (I : Inv S V) (w : Int32) : Step 63 108 [.int w] S V := by
  obtain ⟨C, R, F, J, T, P, X, M, B⟩ := id I
  refine ⟨_, S, V, S, V, ev_told (d := 40), ?_, I⟩
  rw [ev_mtold (d := 40)]
  have h := fun k hk => (X.2.2.2.2.2.1 k hk).trans (M.2.2.2.2.2.1 k hk).symm
  have h0 : S 88 0 = S 93 24 := h 0 (by decide)
  have h1 : S 88 1 = S 93 25 := h 1 (by decide)
  have h2 : S 88 2 = S 93 26 := h 2 (by decide)
  have h3 : S 88 3 = S 93 27 := h 3 (by decide)
  have h4 : S 88 4 = S 93 28 := h 4 (by decide)
  have h5 : S 88 5 = S 93 29 := h 5 (by decide)
  have h6 : S 88 6 = S 93 33 := h 6 (by decide)
  have h7 : S 88 7 = S 93 34 := h 7 (by decide)
  have h8 : S 63 4 = S 93 30 := X.2.2.2.1.2.2.2.1.trans M.2.2.2.1.2.2.2.1.symm
  have h9 : S 63 5 = S 93 31 := X.2.2.2.1.2.2.2.2.trans M.2.2.2.1.2.2.2.2.symm
  rw [h0, h1, h2, h3, h4, h5, h6, h7, h8, h9]
theorem step_takes (I : Inv S V) (v : Int32) : Step 60 84 [.int v] S V := by
  obtain ⟨C, R, F, J, T, P, X, M, B⟩ := id I
  by_cases h : wi v 256 = 0
  · refine ⟨0, S, V, S, V, ?_, ?_, I⟩
    · rw [ev_takes (d := 38), if_pos h, h]
    · rw [ev_mtakes (d := 39), if_pos (by rw [← wi_256]; exact h), ← wi_256, h]; rfl
  · have h1 : wi v 256 = 1 := (wi_01 v 256).resolve_left h
    refine ⟨1, uS S 71 5 v, V, uS (uS S 71 5 v) 93 18 v, V, ?_, ?_, ?_⟩
    · rw [ev_takes (d := 38), if_neg h, h1]
    · rw [ev_mtakes (d := 39), if_neg (by rw [← wi_256]; exact h), ← wi_256, h1]; rfl
    · refine ⟨C, R, F, J, uN T 5 v, P, (X.setT (k := 5) (v := v)).far (fun a k ha => uS_ne (fun z => by have := z.1; omega)) (fun a _ => rfl), ?_, uN_T B B.2.2.2.1 B.2.2.2.2.1 (by rw [uN_self]; exact wi_oct h)⟩
      exact (M.far (S' := uS S 71 5 v) (V' := V) (fun a k ha => uS_ne (fun z => by have := z.1; omega)) (fun a _ => rfl)).setT (k := 5) (v := v) (by decide)
theorem step_terminal (I : Inv S V) (p f w o i : Int32) (ho : B01 o) : Step 59 83 [.int p, .int f, .int w, .int o, .int i] S V := by
  obtain ⟨C, R, F, J, T, P, X, M, B⟩ := id I
  have e1 := ev_terminal (d := 38) (S := S) (V := V) (p := p) (f := f) (w := w) (i := i) (b01_ok ho)
  have e2 := fun S : st_S => ev_mterminal (d := 39) (S := S) (V := V) (p := p) (f := f) (w := w) (i := i) (b01_ok ho)
  by_cases h1 : wi p 256 = 0
  · exact ⟨0, S, V, S, V, by rw [e1, if_pos h1], by rw [e2, if_pos (by rw [← wi_256]; exact h1)], I⟩
  · have h1' : ¬ is3 p 0 255 = 0 := by rw [← wi_256]; exact h1
    by_cases h2 : wi w 256 = 0
    · refine ⟨0, S, V, S, V, by rw [e1, if_neg h1, if_pos h2], ?_, I⟩
      have h3 : is3 w 0 254 = 0 := by
        have h4 : is3 w 0 255 = 0 := by rw [← wi_256]; exact h2
        unfold is3 at h4 ⊢
        by_cases a : w < 0
        · rw [if_pos a]
        · rw [if_neg a] at h4 ⊢
          by_cases b : 255 < w
          · rw [if_pos (by rw [Int32.lt_iff_toInt_lt] at b ⊢; exact Int.lt_trans (by decide) b)]
          · rw [if_neg b] at h4; exact absurd h4 (by decide)
      rw [e2, if_neg h1', if_pos h3]
    · obtain ⟨m, hm, rfl⟩ := wi_oct h2
      have key : ∀ m, m < 256 → ((nI m &&& 1 = 0) ↔ (¬ is3 (nI m) 0 254 = 0 ∧ ¬ am_rem (nI m) 2 = 1)) := by decide +kernel
      by_cases h3 : nI m &&& 1 = 0
      · obtain ⟨h4, h5⟩ := (key m hm).mp h3
        refine ⟨1, tS S p f (nI m) o i, V, mtS (tS S p f (nI m) o i) p f (nI m) o i, V, by rw [e1, if_neg h1, if_neg h2, if_pos h3], by rw [e2, if_neg h1', if_neg h4, if_neg h5], ?_⟩
        refine ⟨C, R, F, J, uN (uN (uN (uN (uN T 0 p) 1 f) 2 (nI m)) 3 o) 4 i, P, ?_, ?_, ?_⟩
        · refine ((((((X.setT (k := 0) (v := p)).setT (k := 1) (v := f)).setT (k := 2) (v := nI m)).setT (k := 3) (v := o)).setT (k := 4) (v := i))).far (fun a k ha => ?_) (fun a _ => rfl)
          unfold mtS
          rw [uS_ne (fun z => by have := z.1; omega), uS_ne (fun z => by have := z.1; omega), uS_ne (fun z => by have := z.1; omega), uS_ne (fun z => by have := z.1; omega), uS_ne (fun z => by have := z.1; omega)]
          rfl
        · have M1 : MX (tS S p f (nI m) o i) V C R F J T P := M.far (fun a k ha => by
            unfold tS
            rw [uS_ne (fun z => by have := z.1; omega), uS_ne (fun z => by have := z.1; omega), uS_ne (fun z => by have := z.1; omega), uS_ne (fun z => by have := z.1; omega), uS_ne (fun z => by have := z.1; omega)]) (fun a _ => rfl)
          exact ((((M1.setT (k := 0) (v := p) (by decide)).setT (k := 1) (v := f) (by decide)).setT (k := 2) (v := nI m) (by decide)).setT (k := 3) (v := o) (by decide)).setT (k := 4) (v := i) (by decide)
        · exact uN_T B ho ⟨m, hm, rfl⟩ B.2.2.2.2.2
      · refine ⟨0, S, V, S, V, by rw [e1, if_neg h1, if_neg h2, if_neg h3], ?_, I⟩
        rw [e2, if_neg h1']
        by_cases h4 : is3 (nI m) 0 254 = 0
        · rw [if_pos h4]
        · rw [if_neg h4]
          by_cases h5 : am_rem (nI m) 2 = 1
          · rw [if_pos h5]
          · exact absurd ((key m hm).mpr ⟨h4, h5⟩) h3
theorem step_fault (I : Inv S V) (n k : Int32) : Step 61 85 [.int n, .int k] S V := by
  obtain ⟨C, R, F, J, T, P, X, M, B⟩ := id I
  by_cases h : wi n 128 = 0 ∨ is3 k 0 2 = 0
  · exact ⟨-1, S, V, S, V, ev_fault_no (d := 39) h, ev_mfault_no (d := 39) (by rw [← wi_128]; exact h), I⟩
  · obtain ⟨j, hj, rfl⟩ := wi_ex (n := 128) (by decide) (fun z => h (Or.inl z))
    have hk : ¬ is3 k 0 2 = 0 := fun z => h (Or.inr z)
    have l64 : (V 64).length = 128 := X.len (by decide)
    have hF : F.length = 128 := by rw [← X.2.2.1]; exact l64
    have hx : F[j]? = some F[j] := List.getElem?_eq_getElem (by omega)
    refine ⟨F[j], S, sV V 64 j k, S, sV (sV V 64 j k) 108 j k, ev_fault (d := 39) hj hk l64 (by rw [X.2.2.1]; exact hx), ?_, ?_⟩
    · have := ev_mfault (d := 39) (S := S) (V := sV V 64 j k) (k := k) hj hk (by rw [sV_len]; exact M.len (by decide)) (x := F[j]) (by rw [sV_ne (by decide), M.2.2.1]; exact hx)
      exact this
    · refine ⟨C, R, F.set j k, J, T, P, (X.setF (j := j) (v := k)).far (fun a _ _ => rfl) (fun a ha => sV_ne (by omega)), ?_, ⟨B.1, B.2.1, B.2.2.1, B.2.2.2⟩⟩
      exact (M.far (V' := sV V 64 j k) (fun a _ _ => rfl) (fun a ha => sV_ne (by omega))).setF
theorem step_exchange (I : Inv S V) (n w : Int32) : Step 64 109 [.int n, .int w] S V := by
  obtain ⟨C, R, F, J, T, P, X, M, B⟩ := id I
  have h8 : S 63 4 = S 93 30 := X.2.2.2.1.2.2.2.1.trans M.2.2.2.1.2.2.2.1.symm
  by_cases h : wi n 128 = 0 ∨ ¬ n < S 63 4
  · exact ⟨-1, S, V, S, V, ev_exch_no (d := 39) h, ev_mexch_no (d := 39) (by rw [← wi_128, ← h8]; exact h), I⟩
  · obtain ⟨j, hj, rfl⟩ := wi_ex (n := 128) (by decide) (fun z => h (Or.inl z))
    have hn : nI j < S 63 4 := Decidable.byContradiction (fun z => h (Or.inr z))
    obtain ⟨a4, a5, a6, -, -⟩ := X.2.2.2.1
    obtain ⟨b4, b5, b6, -, -⟩ := M.2.2.2.1
    have l1 : J.1.length = 128 := by rw [← a4]; exact X.len (by decide)
    have l2 : J.2.1.length = 128 := by rw [← a5]; exact X.len (by decide)
    have l3 : J.2.2.1.length = 128 := by rw [← a6]; exact X.len (by decide)
    have x1 : J.1[j]? = some J.1[j] := List.getElem?_eq_getElem (by omega)
    have x2 : J.2.1[j]? = some J.2.1[j] := List.getElem?_eq_getElem (by omega)
    have x3 : J.2.2.1[j]? = some J.2.2.1[j] := List.getElem?_eq_getElem (by omega)
    exact ⟨_, S, V, S, V, ev_exch (d := 39) (w := w) hj hn (by rw [a4]; exact x1) (by rw [a5]; exact x2) (by rw [a6]; exact x3), ev_mexch (d := 39) (w := w) hj (by rw [← h8]; exact hn) (by rw [b4]; exact x1) (by rw [b5]; exact x2) (by rw [b6]; exact x3), I⟩
theorem step_allow (I : Inv S V) (c cap lim : Int32) : Step 56 80 [.int c, .int cap, .int lim] S V := by
  obtain ⟨C, R, F, J, T, P, X, M, B⟩ := id I
  by_cases h : wi c 4 = 0
  · exact ⟨0, S, V, S, V, ev_allow_no (d := 38) h, ev_mallow_no (d := 38) (by rw [← wi_4]; exact h), I⟩
  · obtain ⟨j, hj, rfl⟩ := wi_ex (n := 4) (by decide) h
    have x0 : (V 94)[j]? = some (C j 0) := M.1 j hj 0 (by decide)
    have e1 := ev_allow (d := 38) (S := S) (V := V) (cap := cap) (lim := lim) hj
    have e2 := fun S : st_S => ev_mallow (d := 38) (S := S) (V := V) (cap := cap) (lim := lim) hj x0 (M.len (by decide)) (M.len (by decide))
    rw [X.1 j hj 0 (by decide)] at e1
    by_cases h1 : nz (C j 0) = 0
    · exact ⟨0, S, V, S, V, by rw [e1, if_pos h1], by rw [e2, if_pos h1], I⟩
    · by_cases h2 : wi lim 256 = 0
      · exact ⟨0, S, V, S, V, by rw [e1, if_neg h1, if_pos h2], by rw [e2, if_neg h1, if_pos (by rw [← wi_256]; exact h2)], I⟩
      · refine ⟨1, uS (uS S (cb j) 8 cap) (cb j) 9 lim, V, uS (uS S (cb j) 8 cap) (cb j) 9 lim, sV (sV V 102 j cap) 103 j lim, by rw [e1, if_neg h1, if_neg h2], ?_, ?_⟩
        · rw [e2, if_neg h1, if_neg (by rw [← wi_256]; exact h2)]
          unfold sV
          rw [uV_ne (a' := 103) (a := 102) (by decide)]
        · refine ⟨uS (uS C j 8 cap) j 9 lim, R, F, J, T, P, ((X.setC (k := 8) (v := cap) hj (by decide)).setC (k := 9) (v := lim) hj (by decide)).far (fun a _ _ => rfl) (fun a ha => by rw [sV_ne (by omega), sV_ne (by omega)]), ?_, ?_⟩
          · have M1 : MX (uS (uS S (cb j) 8 cap) (cb j) 9 lim) V C R F J T P := M.far (fun a k ha => by rw [uS_ne (fun z => cb_ne hj (a := a) (by omega) z.1.symm), uS_ne (fun z => cb_ne hj (a := a) (by omega) z.1.symm)]) (fun a _ => rfl)
            exact (M1.setC (k := 8) (v := cap) hj (by decide)).setC (k := 9) (v := lim) hj (by decide)
          · refine ⟨fun i hi => ?_, B.2⟩
            have b := B.1 i hi
            have e : ∀ k, ¬ k = 8 → ¬ k = 9 → uS (uS C j 8 cap) j 9 lim i k = C i k := fun k h8 h9 => by rw [uS_ne (fun z => h9 z.2), uS_ne (fun z => h8 z.2)]
            unfold BC
            rw [e 0 (by decide) (by decide), e 1 (by decide) (by decide), e 2 (by decide) (by decide), e 3 (by decide) (by decide), e 4 (by decide) (by decide), e 6 (by decide) (by decide), e 7 (by decide) (by decide)]
            exact b
end STEPS
