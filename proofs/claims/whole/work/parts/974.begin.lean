/-! the world at the law's loop, first time -/
theorem ic_spec {n m : Nat} {g : Nat → Option am_E} {r : Option (Option Value × am_H)} (h : ic_h n g r m = true) : ∃ H1 : am_H, r = some (none, H1) ∧ H1.1 = n ∧ H1.2.1 = m ∧ ∀ a, a < n → H1.2.2 a = g a := by
  cases r with
  | none => cases h
  | some R =>
    obtain ⟨v, H1⟩ := R
    simp only [ic_h, Bool.and_eq_true, decide_eq_true_eq, List.all_eq_true, List.mem_range] at h
    obtain ⟨⟨⟨h1, h2⟩, h3⟩, h4⟩ := h
    exact ⟨H1, by rw [h1], h2, h3, h4⟩
theorem HS_lt {S : st_S} {V : st_V} {k : Nat} {e : am_E} (h : HS S V k = some e) : k < 121 := by
  unfold HS at h
  cases hk : sh_L[k]? with
  | none => rw [hk] at h; cases h
  | some x =>
    have := (List.getElem?_eq_some_iff.mp hk).1
    have l : sh_L.length = 121 := by decide +kernel
    omega
theorem lw_H.weak {D : va_G} {tc : Nat → ClassId} {s : State} {h h' : am_H} {H : Heap} {locs : List Loc} (hH : lw_H D tc s h H locs) (e : h'.1 = h.1) (hw : ∀ k x, h'.2.2 k = some x → h.2.2 k = some x) : lw_H D tc s h' H locs := ⟨⟨by rw [e]; exact hH.1.1, fun k x hk => hH.1.2 k x (hw k x hk)⟩, hH.2⟩
theorem ev_made1 : ∃ H1 : am_H, ev 20 54 [.ref 0] h0 = some (none, H1) ∧ H1.1 = 93 ∧ H1.2.1 = 1427 ∧ ∀ k x, hT.2.2 k = some x → H1.2.2 k = some x := by
  obtain ⟨H1, e1, e2, e3, e4⟩ := ic_spec ic_1
  refine ⟨H1, rn_iff.mpr ⟨5000, e1⟩, e2, e3, fun k x hk => ?_⟩
  have hk : (if k < 93 then HS S0 V0 k else none) = some x := hk
  split at hk
  · rename_i hlt
    rw [e4 k hlt]; exact hk
  · cases hk
theorem ev_made2 : ∃ H1 : am_H, ev 20 75 [.ref 93] hN = some (none, H1) ∧ H1.1 = 121 ∧ H1.2.1 = 2508 ∧ ∀ k x, (hs S0 V0).2.2 k = some x → H1.2.2 k = some x := by
  obtain ⟨H1, e1, e2, e3, e4⟩ := ic_spec ic_2
  refine ⟨H1, rn_iff.mpr ⟨5000, e1⟩, e2, e3, fun k x hk => ?_⟩
  have hk : HS S0 V0 k = some x := hk
  rw [e4 k (HS_lt hk)]; exact hk
theorem cx_0 : CX S0 V0 (fun j k => S0 (cb j) k) (fun _ => []) (V0 64) (V0 65, V0 66, V0 67, 0, 0) (S0 71) (S0 88) := by
  refine ⟨fun j hj k hk => rfl, fun j hj r hr => ⟨V0 (rr (cb j) r + 1), rfl, ?_, ?_⟩, rfl, ⟨rfl, rfl, rfl, rfl, rfl⟩, fun k hk => rfl, fun k hk => rfl, by decide +kernel⟩
  · have : ∀ j, j < 4 → ∀ r, r < 3 → (V0 (rr (cb j) r + 1)).length = 24 := by decide +kernel
    rw [this j hj r hr]; rfl
  · exact (by decide +kernel : ∀ j, j < 4 → ∀ r, r < 3 → S0 (rr (cb j) r) 1 = nI 0) j hj r hr
theorem mx_0 : MX S0 V0 (fun j k => S0 (cb j) k) (fun _ => []) (V0 64) (V0 65, V0 66, V0 67, 0, 0) (S0 71) (S0 88) := by
  refine ⟨by decide +kernel, fun i hi => ⟨?_, fun k hk => absurd hk (Nat.not_lt_zero k)⟩, by decide +kernel, ⟨by decide +kernel, by decide +kernel, by decide +kernel, rfl, rfl⟩, by decide +kernel, by decide +kernel, by decide +kernel⟩
  exact (by decide +kernel : ∀ i, i < 12 → (V0 107)[i]? = some (nI 0)) i hi
theorem inv_0 : Inv S0 V0 := by
  refine ⟨_, _, _, _, _, _, cx_0, mx_0, fun j hj => ?_, fun i hi => ⟨by show 0 ≤ 24; decide, fun x hx => by cases hx⟩, ⟨by show 0 ≤ 1000000; decide, by show 0 ≤ 1000000; decide⟩, Or.inr rfl, ⟨0, by decide, rfl⟩, ⟨0, by decide, rfl⟩⟩
  have z : ∀ j, j < 4 → ∀ k, k < 12 → S0 (cb j) k = 0 := by decide +kernel
  have z0 : S0 (cb j) 0 = 0 := z j hj 0 (by decide)
  have z1 : S0 (cb j) 1 = 0 := z j hj 1 (by decide)
  have z2 : S0 (cb j) 2 = 0 := z j hj 2 (by decide)
  exact ⟨Or.inl z0, Or.inl z1, Or.inl z2, fun h => absurd (z1.symm.trans h) (by decide), fun h => absurd (z0.symm.trans h) (by decide), 0, by decide, z j hj 7 (by decide)⟩
