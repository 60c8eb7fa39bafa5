/-! one call on both sides: look, write, field, card -/
section STEPS2
variable {S : st_S} {V : st_V}
theorem BC_uS {C : st_S} {j k : Nat} {v : Int32} (hk : k = 5 ∨ k = 8 ∨ k = 9 ∨ k = 10 ∨ k = 11) {i : Nat} (b : BC (C i)) : BC (uS C j k v i) := by
  have e : ∀ l, ¬ l = k → uS C j k v i l = C i l := fun l h => uS_ne (fun z => h z.2)
  unfold BC
  rw [e 0 (by omega), e 1 (by omega), e 2 (by omega), e 3 (by omega), e 4 (by omega), e 6 (by omega), e 7 (by omega)]
  exact b
theorem step_look (I : Inv S V) (c w : Int32) : Step 65 110 [.int c, .int w] S V := by
  obtain ⟨C, R, F, J, T, P, X, M, B⟩ := id I
  by_cases h : wi c 4 = 0
  · exact ⟨-1, S, V, S, V, ev_look_no (d := 38) h, ev_mlook_no (d := 38) (by rw [← wi_4]; exact h), I⟩
  · obtain ⟨j, hj, rfl⟩ := wi_ex (n := 4) (by decide) h
    have g := fun k hk => M.1 j hj k hk
    have x := fun k hk => X.1 j hj k hk
    obtain ⟨jk0, -, -, r0⟩ := X.2.1 j hj 0 (by decide)
    obtain ⟨jk1, -, -, r1⟩ := X.2.1 j hj 1 (by decide)
    obtain ⟨jk2, -, -, r2⟩ := X.2.1 j hj 2 (by decide)
    have e1 := ev_look (d := 38) (S := S) (V := V) (w := w) hj
    rw [x 0 (by decide), x 1 (by decide), x 3 (by decide), x 7 (by decide), x 10 (by decide), x 11 (by decide), r0, r1, r2] at e1
    refine ⟨_, S, V, S, V, e1, ?_, I⟩
    exact ev_mlook (d := 38) (w := w) hj (g 0 (by decide)) (g 1 (by decide)) (g 3 (by decide)) (g 7 (by decide)) (g 10 (by decide)) (g 11 (by decide)) (M.2.1 (3 * j) (by omega)).1 (M.2.1 (3 * j + 1) (by omega)).1 (M.2.1 (3 * j + 2) (by omega)).1 (B.2.1 (3 * j) (by omega)).1 (B.2.1 (3 * j + 1) (by omega)).1 (B.2.1 (3 * j + 2) (by omega)).1
theorem step_write (I : Inv S V) (c r v : Int32) : Step 57 81 [.int c, .int r, .int v] S V := by
  obtain ⟨C, R, F, J, T, P, X, M, B⟩ := id I
  by_cases h : wi c 4 = 0
  · exact ⟨-1, S, V, S, V, ev_write_no (d := 38) h, ev_mwrite_no (d := 38) (by rw [← wi_4]; exact h), I⟩
  · obtain ⟨j, hj, rfl⟩ := wi_ex (n := 4) (by decide) h
    have x0 : (V 94)[j]? = some (C j 0) := M.1 j hj 0 (by decide)
    have s0 : S (cb j) 0 = C j 0 := X.1 j hj 0 (by decide)
    by_cases hn : nz (C j 0) = 0 ∨ wi r 3 = 0 ∨ wi v 256 = 0
    · exact ⟨-1, S, V, S, V, ev_write_no2 (d := 38) hj (by rw [s0]; exact hn), ev_mwrite_no2 (d := 38) hj x0 (by rw [← wi_3, ← wi_256]; exact hn), I⟩
    · have h1 : ¬ nz (C j 0) = 0 := fun z => hn (Or.inl z)
      have h3 : ¬ wi v 256 = 0 := fun z => hn (Or.inr (Or.inr z))
      have h3' : ¬ is3 v 0 255 = 0 := by rw [← wi_256]; exact h3
      obtain ⟨q, hq, rfl⟩ := wi_ex (n := 3) (by decide) (fun z => hn (Or.inr (Or.inl z)))
      obtain ⟨jk, k1, k2, k3⟩ := X.2.1 j hj q hq
      obtain ⟨m1, m2⟩ := M.2.1 (3 * j + q) (by omega)
      by_cases hf : (R (3 * j + q)).length = 24
      · refine ⟨-2, S, V, S, V, ev_write_full (d := 38) hj hq (by rw [s0]; exact h1) h3 (by rw [k3, hf]; rfl), ev_mwrite_full (d := 38) hj hq x0 h1 h3' (by rw [m1, hf]; rfl), I⟩
      · have hlt : (R (3 * j + q)).length < 24 := by omega
        refine ⟨_, _, _, _, _, ev_write (d := 38) hj hq (by rw [s0]; exact h1) h3 k3 hlt (by rw [k1, List.length_append]; exact k2), ev_mwrite (d := 38) hj hq (x := C j 0) (by rw [sV_ne (fun z => rr1_ne hj hq (by decide) z.symm)]; exact x0) h1 h3' (by rw [sV_ne (fun z => rr1_ne hj hq (by decide) z.symm)]; exact m1) hlt (by rw [sV_len]; exact M.len (by decide)) (by rw [sV_len]; exact M.len (by decide)), ?_⟩
        refine ⟨C, uV R (3 * j + q) (R (3 * j + q) ++ [v]), F, J, T, P, (X.addR (v := v) hj hq hlt).far (fun a _ _ => rfl) (fun a ha => by rw [sV_ne (by omega), sV_ne (by omega)]), ?_, ⟨B.1, fun i hi => ?_, B.2.2⟩⟩
        · have M1 : MX (uS S (rr (cb j) q) 1 (nI ((R (3 * j + q)).length + 1))) (sV V (rr (cb j) q + 1) (R (3 * j + q)).length v) C R F J T P := M.far (fun a k ha => uS_ne (fun z => rr_ne hj hq (a := a) (by omega) z.1.symm)) (fun a ha => sV_ne (fun z => rr1_ne hj hq (a := a) (by omega) z.symm))
          exact M1.addR (by omega) (fun i hi => (B.2.1 i hi).1) hlt
        · by_cases he : i = 3 * j + q
          · subst he
            rw [uV_self]
            refine ⟨by simp; omega, fun y hy => ?_⟩
            rcases List.mem_append.mp hy with hy | hy
            · exact (B.2.1 _ hi).2 y hy
            · rw [List.mem_singleton.mp hy]; exact wi_oct h3
          · rw [uV_ne he]; exact B.2.1 i hi
theorem step_field (I : Inv S V) (c i : Int32) (hi : B01 i) : Step 58 82 [.int c, .int i] S V := by
  obtain ⟨C, R, F, J, T, P, X, M, B⟩ := id I
  by_cases h : wi c 4 = 0
  · exact ⟨0, S, V, S, V, ev_field_no (d := 38) h, ev_mfield_no (d := 38) (by rw [← wi_4]; exact h), I⟩
  · obtain ⟨j, hj, rfl⟩ := wi_ex (n := 4) (by decide) h
    have x0 : (V 94)[j]? = some (C j 0) := M.1 j hj 0 (by decide)
    have s0 : S (cb j) 0 = C j 0 := X.1 j hj 0 (by decide)
    have e1 := ev_field (d := 38) (S := S) (V := V) hj (b01_ok hi)
    have m1 : ∀ o, o < 4 → (V 95)[o]? = some (S (cb o) 1) := fun o ho => by rw [X.1 o ho 1 (by decide)]; exact M.1 o ho 1 (by decide)
    have m3 : ∀ o, o < 4 → (V 97)[o]? = some (S (cb o) 3) := fun o ho => by rw [X.1 o ho 3 (by decide)]; exact M.1 o ho 3 (by decide)
    have e2 := fun S' : st_S => ev_mfield (d := 38) (S := S) (S' := S') (V := V) (i := i) hj x0 m1 m3 (M.len (by decide))
    rw [s0] at e1
    by_cases h1 : nz (C j 0) = 0
    · exact ⟨0, S, V, S, V, by rw [e1, if_pos h1], by rw [e2, if_pos h1], I⟩
    · by_cases h2 : ¬ i = 0 ∧ tkn S j 4 0 = true
      · exact ⟨0, S, V, S, V, by rw [e1, if_neg h1, if_pos h2], by rw [e2, if_neg h1, if_pos h2], I⟩
      · have M1 : MX (uS S (cb j) 1 i) V C R F J T P := M.far (fun a k ha => uS_ne (fun z => cb_ne hj (a := a) (by omega) z.1.symm)) (fun a _ => rfl)
        have e3 : ev 40 82 [.ref 93, .int (nI j), .int i] (hs (uS S (cb j) 1 i) V) = some (some (.int 1), hs (uS S (cb j) 1 i) (sV V 95 j i)) := by
          have hb : vp_nar .boolean i = i := by rcases hi with rfl | rfl; exact bn_0; exact bn_1
          rw [e2, if_neg h1, if_neg h2, hb]
        refine ⟨1, uS S (cb j) 1 i, V, uS S (cb j) 1 i, sV V 95 j i, by rw [e1, if_neg h1, if_neg h2], e3, ?_⟩
        refine ⟨uS C j 1 i, R, F, J, T, P, (X.setC (k := 1) (v := i) hj (by decide)).far (fun a _ _ => rfl) (fun a ha => sV_ne (by omega)), M1.setC (k := 1) (v := i) hj (by decide), ⟨fun q hq => ?_, B.2⟩⟩
        obtain ⟨b0, b1, b2, b3, b4, b5⟩ := B.1 q hq
        have c0 : C j 0 = 1 := by
          rcases (B.1 j hj).1 with z | z
          · rw [z] at h1; exact absurd rfl h1
          · exact z
        by_cases hqj : q = j
        · subst hqj
          have e : ∀ l, ¬ l = 1 → uS C q 1 i q l = C q l := fun l h => uS_ne (fun z => h z.2)
          unfold BC
          rw [e 0 (by decide), e 2 (by decide), e 3 (by decide), e 4 (by decide), e 6 (by decide), e 7 (by decide), uS_self]
          exact ⟨b0, hi, b2, fun _ => c0, b4, b5⟩
        · have e : ∀ l, uS C j 1 i q l = C q l := fun l => uS_ne (fun z => hqj z.1)
          unfold BC
          rw [e 0, e 1, e 2, e 3, e 4, e 6, e 7]
          exact ⟨b0, b1, b2, b3, b4, b5⟩
end STEPS2
