/-! a card is chosen: what both sides do -/
/-- what told tells, number by number -/
def mkP (b ch fi ty ct mx se re : Int32) (k : Nat) : Int32 := match k with
  | 0 => b
  | 1 => ch
  | 2 => fi
  | 3 => ty
  | 4 => ct
  | 5 => mx
  | 6 => se
  | 7 => re
  | _ => 0
section MKP
variable {b ch fi ty ct mx se re v : Int32} {S : st_S} {V : st_V} {C : st_S} {R : st_V} {F : List Int32} {J : st_J} {T P P' : Nat → Int32}
theorem CX.congP (H : CX S V C R F J T P) (h : ∀ k, k < 8 → P k = P' k) : CX S V C R F J T P' := ⟨H.1, H.2.1, H.2.2.1, H.2.2.2.1, H.2.2.2.2.1, fun k hk => (H.2.2.2.2.2.1 k hk).trans (h k hk), H.2.2.2.2.2.2⟩
theorem MX.congP (H : MX S V C R F J T P) (h : ∀ k, k < 8 → P k = P' k) : MX S V C R F J T P' := ⟨H.1, H.2.1, H.2.2.1, H.2.2.2.1, H.2.2.2.2.1, fun k hk => (H.2.2.2.2.2.1 k hk).trans (h k hk), H.2.2.2.2.2.2⟩
theorem k8 {p : Nat → Prop} (h0 : p 0) (h1 : p 1) (h2 : p 2) (h3 : p 3) (h4 : p 4) (h5 : p 5) (h6 : p 6) (h7 : p 7) : ∀ k, k < 8 → p k := by
  intro k hk
  match k, hk with
  | 0, _ => exact h0
  | 1, _ => exact h1
  | 2, _ => exact h2
  | 3, _ => exact h3
  | 4, _ => exact h4
  | 5, _ => exact h5
  | 6, _ => exact h6
  | 7, _ => exact h7
theorem mkP_0 : ∀ k, k < 8 → uN (mkP b ch fi ty ct mx se re) 0 v k = mkP v ch fi ty ct mx se re k := k8 rfl rfl rfl rfl rfl rfl rfl rfl
theorem mkP_1 : ∀ k, k < 8 → uN (mkP b ch fi ty ct mx se re) 1 v k = mkP b v fi ty ct mx se re k := k8 rfl rfl rfl rfl rfl rfl rfl rfl
theorem mkP_2 : ∀ k, k < 8 → uN (mkP b ch fi ty ct mx se re) 2 v k = mkP b ch v ty ct mx se re k := k8 rfl rfl rfl rfl rfl rfl rfl rfl
theorem mkP_3 : ∀ k, k < 8 → uN (mkP b ch fi ty ct mx se re) 3 v k = mkP b ch fi v ct mx se re k := k8 rfl rfl rfl rfl rfl rfl rfl rfl
theorem mkP_4 : ∀ k, k < 8 → uN (mkP b ch fi ty ct mx se re) 4 v k = mkP b ch fi ty v mx se re k := k8 rfl rfl rfl rfl rfl rfl rfl rfl
theorem mkP_5 : ∀ k, k < 8 → uN (mkP b ch fi ty ct mx se re) 5 v k = mkP b ch fi ty ct v se re k := k8 rfl rfl rfl rfl rfl rfl rfl rfl
theorem mkP_6 : ∀ k, k < 8 → uN (mkP b ch fi ty ct mx se re) 6 v k = mkP b ch fi ty ct mx v re k := k8 rfl rfl rfl rfl rfl rfl rfl rfl
theorem mkP_7 : ∀ k, k < 8 → uN (mkP b ch fi ty ct mx se re) 7 v k = mkP b ch fi ty ct mx se v k := k8 rfl rfl rfl rfl rfl rfl rfl rfl
end MKP
/-- the cards, in a run -/
def CI (C : st_S) : Prop := ∀ j, j < 4 → BC (C j) ∧ (¬ C j 2 = 0 → C j 0 = 1)
def adr (C : st_S) (j : Nat) : Nat := (C j 3).toNatClampNeg
def sz (C : st_S) (j : Nat) : Nat := (C j 6).toNatClampNeg
theorem BC.cong {c c' : Nat → Int32} (h : BC c) (h0 : c' 0 = c 0) (h1 : c' 1 = c 1) (h2 : B01 (c' 2)) (h3 : c' 3 = c 3) (h4 : c' 4 = c 4) (h6 : c' 6 = c 6) (h7 : ∃ q, q < 65536 ∧ c' 7 = nI q) : BC c' := by
  obtain ⟨a, b, _, e, f, _⟩ := h
  exact ⟨by rw [h0]; exact a, by rw [h1]; exact b, h2, by rw [h0, h1]; exact e, by rw [h0, h3, h4, h6]; exact f, h7⟩
theorem CI.ra {C : st_S} (H : CI C) : RA (fun j => C j 2) (fun j => C j 3) (adr C) := by
  intro j hj hr
  obtain ⟨B, h⟩ := H j hj
  obtain ⟨m, hm, e⟩ := (B.2.2.2.2.1 (h hr)).1
  have : adr C j = m := by unfold adr; rw [e]; exact nI_clamp (by omega)
  exact ⟨by omega, by rw [this]; exact e⟩
theorem CI.size {C : st_S} {j : Nat} (H : CI C) (hj : j < 4) (h : C j 0 = 1) : C j 6 = nI (sz C j) ∧ 3 ≤ sz C j ∧ sz C j ≤ 16 := by
  obtain ⟨B, _⟩ := H j hj
  obtain ⟨_, _, z, h3, h16, e⟩ := B.2.2.2.2.1 h
  have : sz C j = z := by unfold sz; rw [e]; exact nI_clamp (by omega)
  rw [this]; exact ⟨e, h3, h16⟩
theorem exe_k {C : st_S} {R : st_V} {j i k : Nat} {cmd : List Int32} (h : ¬ (k = 7 ∨ k = 10 ∨ k = 11)) : (exe C R j cmd).1 i k = C i k := by
  unfold exe
  split
  · exact uS_ne (by omega)
  · split
    · exact uS_ne (by omega)
    · split
      · exact uS_ne (by omega)
      · show uS (uS (uS C j 11 _) j 7 _) j 10 _ i k = _
        rw [uS_ne (by omega), uS_ne (by omega), uS_ne (by omega)]
theorem exe_7 {C : st_S} {R : st_V} {j i : Nat} {cmd : List Int32} (H : ∀ i, i < 4 → ∃ q, q < 65536 ∧ C i 7 = nI q) (hj : j < 4) (hi : i < 4) : ∃ q, q < 65536 ∧ (exe C R j cmd).1 i 7 = nI q := by
  unfold exe
  split
  · show ∃ q, _ ∧ uS C j 11 _ i 7 = _
    rw [uS_ne (by omega)]; exact H i hi
  · split
    · show ∃ q, _ ∧ uS C j 11 _ i 7 = _
      rw [uS_ne (by omega)]; exact H i hi
    · split
      · show ∃ q, _ ∧ uS C j 11 _ i 7 = _
        rw [uS_ne (by omega)]; exact H i hi
      · show ∃ q, _ ∧ uS (uS (uS C j 11 _) j 7 _) j 10 _ i 7 = _
        rw [uS_ne (by omega)]
        by_cases h : i = j
        · subst h; rw [uS_self]; exact exC_nat (H i hi)
        · rw [uS_ne (by omega), uS_ne (by omega)]; exact H i hi
theorem CI.exe {C : st_S} {R : st_V} {j : Nat} {cmd : List Int32} (H : CI C) (hj : j < 4) : CI (exe C R j cmd).1 := by
  intro i hi
  obtain ⟨B, h⟩ := H i hi
  refine ⟨B.cong (exe_k (by decide)) (exe_k (by decide)) ?_ (exe_k (by decide)) (exe_k (by decide)) (exe_k (by decide)) (exe_7 (fun i hi => (H i hi).1.2.2.2.2.2) hj hi), ?_⟩
  · rw [exe_k (by decide)]; exact B.2.2.1
  · rw [exe_k (by decide), exe_k (by decide)]; exact h
theorem CI.ph {C C1 : st_S} (H : CI C) (H1 : CI C1) (ph : Nat) : CI (cph C C1 ph) := by
  unfold cph
  split
  · exact H1
  · exact H
theorem CI.off {C : st_S} {j : Nat} (H : CI C) : CI (uS C j 2 0) := by
  intro i hi
  obtain ⟨B, h⟩ := H i hi
  have k : ∀ l, ¬ l = 2 → uS C j 2 0 i l = C i l := fun l hl => uS_ne (by omega)
  refine ⟨B.cong (k 0 (by decide)) (k 1 (by decide)) ?_ (k 3 (by decide)) (k 4 (by decide)) (k 6 (by decide)) (by rw [k 7 (by decide)]; exact B.2.2.2.2.2), ?_⟩
  · by_cases hi : i = j
    · rw [hi, uS_self]; exact Or.inl rfl
    · rw [uS_ne (by omega)]; exact B.2.2.1
  · rw [k 0 (by decide)]
    by_cases hi : i = j
    · rw [hi, uS_self]; intro z; exact absurd rfl z
    · rw [uS_ne (by omega)]; exact h
def rc (C : st_S) : Nat := (if C 0 2 = 0 then 0 else 1) + (if C 1 2 = 0 then 0 else 1) + (if C 2 2 = 0 then 0 else 1) + (if C 3 2 = 0 then 0 else 1)
theorem rc_le (C : st_S) : rc C ≤ 4 := by
  unfold rc
  split <;> split <;> split <;> split <;> decide
theorem rc_off {C : st_S} {j : Nat} (hj : j < 4) (h : ¬ C j 2 = 0) : rc (uS C j 2 0) < rc C := by
  unfold rc
  rcases j4 hj with rfl | rfl | rfl | rfl
  · rw [uS_self, uS_ne (a' := 1) (by decide), uS_ne (a' := 2) (by decide), uS_ne (a' := 3) (by decide), if_pos rfl, if_neg h]; omega
  · rw [uS_self, uS_ne (a' := 0) (by decide), uS_ne (a' := 2) (by decide), uS_ne (a' := 3) (by decide), if_pos rfl, if_neg h]; omega
  · rw [uS_self, uS_ne (a' := 1) (by decide), uS_ne (a' := 0) (by decide), uS_ne (a' := 3) (by decide), if_pos rfl, if_neg h]; omega
  · rw [uS_self, uS_ne (a' := 1) (by decide), uS_ne (a' := 2) (by decide), uS_ne (a' := 0) (by decide), if_pos rfl, if_neg h]; omega
theorem rc_same {C C' : st_S} (h : ∀ j, C' j 2 = C j 2) : rc C' = rc C := by unfold rc; rw [h, h, h, h]
theorem ak_ok {F : List Int32} {rd ad : Nat → Int32} {A : Nat → Nat} (R : RA rd ad A) : ∀ (m : Nat) (J : st_J) (n q : Nat), 9 ≤ n + m → n ≤ 8 → JL J → jn J + 3 * m ≤ 2000000 → ((ak F rd A m J n q).1 < 4 → ¬ rd (ak F rd A m J n q).1 = 0) ∧ (ak F rd A m J n q).1 < 6 ∧ JL (ak F rd A m J n q).2 ∧ jn (ak F rd A m J n q).2 ≤ jn J + 3 * m := by
  intro m
  induction m with
  | zero => intro J n q h9 h8; omega
  | succ m ih =>
    intro J n q h9 h8 L hJ
    rw [ak_s]
    have g2 : gI rd A q n (gN rd A q n 4 0 none 0).1 (gN rd A q n 4 0 none 0).2 := gN_I R 4 0 none 0 (by omega) (gI_0 _ _ _ _)
    unfold aks
    generalize hg : gN rd A q n 4 0 none 0 = g at g2
    obtain ⟨w, D⟩ := g
    obtain ⟨i1, i2, i3, i4⟩ := g2
    dsimp only at i1 i2 i3 i4 ⊢
    obtain ⟨LC, JC⟩ := clt_L (F := F) (p := w.isSome) (k := 2) (x := nI n) 3 J false L (by omega)
    have hnone : w = none → (clt F w.isSome 2 (nI n) 3 J false).1 = false := by
      intro hw
      subst hw
      show (clt F false 2 (nI n) 3 J false).1 = false
      simp only [clt_s, Bool.false_eq_true, false_and, if_false]
      rfl
    generalize clt F w.isSome 2 (nI n) 3 J false = cl at LC JC hnone
    obtain ⟨an, hd, J'⟩ := cl
    dsimp only at LC JC hnone ⊢
    cases an with
    | false =>
      rw [if_neg (by decide)]
      refine ⟨fun z => ?_, ?_, LC, by show jn J' ≤ _; omega⟩
      · exfalso
        have : (if n = 0 then 4 else 5) < 4 := z
        split at this <;> omega
      · show (if n = 0 then 4 else 5) < 6
        split <;> omega
    | true =>
      rw [if_pos rfl]
      cases w with
      | none => exact absurd (hnone rfl) (by decide)
      | some j =>
        obtain ⟨j4', jr, jq⟩ := i4 j rfl
        by_cases h0 : D = 0
        · rw [if_pos h0]
          exact ⟨fun _ => jr, by show j < 6; omega, LC, by show jn J' ≤ _; omega⟩
        · rw [if_neg h0]
          have hl8 := lz8_le D i1
          have hl7 : lz8 D < 8 := by
            have := lz8_0 D i1
            omega
          have hln : n ≤ lz8 D := (lz8_iff D i1 n (by omega)).mp i2
          obtain ⟨b1, b2, b3, b4⟩ := ih J' (lz8 D + 1) (A ((some j).getD 0) / 2 ^ (8 - lz8 D) * 2) (by omega) (by omega) LC (by omega)
          exact ⟨b1, b2, b3, by omega⟩
theorem clt_hd1 {F : List Int32} {p : Bool} {k x : Int32} : ∀ (m : Nat) (J : st_J) (hd : Bool), (clt F p k x m J hd).1 = true → (clt F p k x m J hd).2.1 = true := by
  intro m
  induction m with
  | zero => intro J hd h; cases h
  | succ m ih =>
    intro J hd
    rw [clt_s]
    split
    · intro _; rfl
    · exact ih _ _
abbrev ch_T : Type := Nat × st_S × st_J × Int32 × Nat × Nat
/-- a card that answers alone: it says its application; is it taken, or put off -/
def chr (F : List Int32) (a5 : Int32) (k : st_S → st_J → Int32 → ch_T) (C : st_S) (j : Nat) (J : st_J) (se : Int32) : ch_T :=
  if (tk F 1 (sz C j) 1 340 J 0 0 0 5 0 0).1 = true then
    if am_ush a5 (C j 4) &&& 1 = 1 then (0, cph C (uS C j 11 (C j 11 + 1)) (tk F 1 (sz C j) 1 340 J 0 0 0 5 0 0).2.2.2, (tk F 1 (sz C j) 1 340 J 0 0 0 5 0 0).2.1, se, j, (tk F 1 (sz C j) 1 340 J 0 0 0 5 0 0).2.2.1)
    else if (clt F true 4 (C j 3) 3 (tk F 1 (sz C j) 1 340 J 0 0 0 5 0 0).2.1 false).1 = true then k (uS (cph C (uS C j 11 (C j 11 + 1)) (tk F 1 (sz C j) 1 340 J 0 0 0 5 0 0).2.2.2) j 2 0) (clt F true 4 (C j 3) 3 (tk F 1 (sz C j) 1 340 J 0 0 0 5 0 0).2.1 false).2.2 se
    else (4, if (clt F true 4 (C j 3) 3 (tk F 1 (sz C j) 1 340 J 0 0 0 5 0 0).2.1 false).2.1 = true then uS (cph C (uS C j 11 (C j 11 + 1)) (tk F 1 (sz C j) 1 340 J 0 0 0 5 0 0).2.2.2) j 2 0 else cph C (uS C j 11 (C j 11 + 1)) (tk F 1 (sz C j) 1 340 J 0 0 0 5 0 0).2.2.2, (clt F true 4 (C j 3) 3 (tk F 1 (sz C j) 1 340 J 0 0 0 5 0 0).2.1 false).2.2, se, 0, 0)
  else (4, cph C (uS C j 11 (C j 11 + 1)) (tk F 1 (sz C j) 1 340 J 0 0 0 5 0 0).2.2.2, (tk F 1 (sz C j) 1 340 J 0 0 0 5 0 0).2.1, se, 0, 0)
def chc (F : List Int32) (a5 : Int32) (k : st_S → st_J → Int32 → ch_T) (C : st_S) (a : Nat × st_J) (se : Int32) : ch_T :=
  if a.1 < 4 then
    if (clt F true 3 (C a.1 3) 3 a.2 false).1 = true then chr F a5 k C a.1 (clt F true 3 (C a.1 3) 3 a.2 false).2.2 (se + 1)
    else (4, C, (clt F true 3 (C a.1 3) 3 a.2 false).2.2, se, 0, 0)
  else (if a.1 = 4 then 3 else 4, C, a.2, se, 0, 0)
/-- 0 a card is chosen; else how the run ends; the cards, the exchanges, how many were selected, the card, the number -/
def chz (F : List Int32) (a5 : Int32) : Nat → st_S → st_J → Int32 → ch_T
  | 0, C, J, se => (3, C, J, se, 0, 0)
  | m + 1, C, J, se => chc F a5 (chz F a5 m) C (ak F (fun j => C j 2) (adr C) 9 J 0 0) se
theorem chz_s (F : List Int32) (a5 : Int32) (m : Nat) (C : st_S) (J : st_J) (se : Int32) : chz F a5 (m + 1) C J se = chc F a5 (chz F a5 m) C (ak F (fun j => C j 2) (adr C) 9 J 0 0) se := rfl
theorem exe_1 (C : st_S) (R : st_V) (j : Nat) : exe C R j [1] = (uS C j 11 (C j 11 + 1), [C j 4]) := rfl
def chOK (z : ch_T) (N : Nat) : Prop := CI z.2.1 ∧ JL z.2.2.1 ∧ jn z.2.2.1 ≤ N ∧ (z.1 = 0 → z.2.2.2.2.1 < 4 ∧ z.2.2.2.2.2 ≤ 1 ∧ z.2.1 z.2.2.2.2.1 0 = 1) ∧ (z.1 = 0 ∨ z.1 = 3 ∨ z.1 = 4)
theorem CI.c11 {C : st_S} {j : Nat} (H : CI C) (hj : j < 4) : CI (uS C j 11 (C j 11 + 1)) := CI.exe (R := fun _ => []) (cmd := [1]) H hj
theorem chr_ok {F : List Int32} {a5 se : Int32} {k : st_S → st_J → Int32 → ch_T} {C : st_S} {j : Nat} {J : st_J} {N : Nat} (H : CI C) (hj : j < 4) (h0 : C j 0 = 1) (L : JL J) (hN : N ≤ 2000000) (hJ : jn J + 343 ≤ N) (hk : ∀ ph J', JL J' → jn J' ≤ jn J + 343 → chOK (k (uS (cph C (uS C j 11 (C j 11 + 1)) ph) j 2 0) J' se) N) : chOK (chr F a5 k C j J se) N := by
  obtain ⟨z6, z3, z16⟩ := H.size hj h0
  obtain ⟨LT, JT, tT, _⟩ := tk_L (F := F) (L := 1) (n := 1) (z := sz C j) z3 340 J 0 0 0 5 0 0 ⟨by decide, Or.inl ⟨rfl, Or.inl rfl, by decide⟩⟩ L (by omega)
  unfold chr
  generalize tk F 1 (sz C j) 1 340 J 0 0 0 5 0 0 = q at LT JT tT
  obtain ⟨ok, J1, t, ph⟩ := q
  dsimp only at LT JT tT ⊢
  have H1 : CI (cph C (uS C j 11 (C j 11 + 1)) ph) := H.ph (H.c11 hj) ph
  have e0 : cph C (uS C j 11 (C j 11 + 1)) ph j 0 = 1 := by
    unfold cph
    split
    · rw [uS_ne (by omega)]; exact h0
    · exact h0
  cases ok with
  | false => rw [if_neg (by decide)]; exact ⟨H1, LT, by show jn J1 ≤ N; omega, fun z => absurd z (by show ¬ 4 = 0; decide), Or.inr (Or.inr rfl)⟩
  | true =>
    rw [if_pos rfl]
    split
    · exact ⟨H1, LT, by show jn J1 ≤ N; omega, fun _ => ⟨hj, tT, e0⟩, Or.inl rfl⟩
    · obtain ⟨LC, JC⟩ := clt_L (F := F) (p := true) (k := 4) (x := C j 3) 3 J1 false LT (by omega)
      generalize clt F true 4 (C j 3) 3 J1 false = cl at LC JC
      obtain ⟨an, hd, J2⟩ := cl
      dsimp only at LC JC ⊢
      cases an with
      | true => rw [if_pos rfl]; exact hk ph J2 LC (by omega)
      | false =>
        rw [if_neg (by decide)]
        refine ⟨?_, LC, by show jn J2 ≤ N; omega, fun z => absurd z (by show ¬ 4 = 0; decide), Or.inr (Or.inr rfl)⟩
        show CI (if hd = true then _ else _)
        split
        · exact H1.off
        · exact H1
theorem aux_343 {x y w m : Nat} (h1 : x ≤ w + 3) (h2 : w ≤ y + 3 * 9) : x + 343 ≤ y + 400 * (m + 1) := by omega
theorem aux_373 {x y w v m : Nat} (h0 : v ≤ x + 343) (h1 : x ≤ w + 3) (h2 : w ≤ y + 3 * 9) (h3 : y + 400 * (m + 1) ≤ 2000000) : v + 400 * m ≤ 2000000 ∧ v + 400 * m ≤ y + 400 * (m + 1) := by omega
theorem chz_ok {F : List Int32} {a5 : Int32} : ∀ (m : Nat) (C : st_S) (J : st_J) (se : Int32), rc C < m → CI C → JL J → jn J + 400 * m ≤ 2000000 → chOK (chz F a5 m C J se) (jn J + 400 * m) := by
  intro m
  induction m with
  | zero => intro C J se h; omega
  | succ m ih =>
    intro C J se hr H L hJ
    rw [chz_s]
    obtain ⟨a1, a2, a3, a4⟩ := ak_ok (F := F) H.ra 9 J 0 0 (by decide) (by decide) L (by omega)
    generalize ak F (fun j => C j 2) (adr C) 9 J 0 0 = a at a1 a2 a3 a4
    obtain ⟨j, J1⟩ := a
    dsimp only at a1 a2 a3 a4
    unfold chc
    dsimp only
    by_cases hj : j < 4
    · rw [if_pos hj]
      have r := a1 hj
      obtain ⟨LC, JC⟩ := clt_L (F := F) (p := true) (k := 3) (x := C j 3) 3 J1 false a3 (by omega)
      generalize clt F true 3 (C j 3) 3 J1 false = cl at LC JC
      obtain ⟨an, hd, J2⟩ := cl
      dsimp only at LC JC ⊢
      cases an with
      | false => rw [if_neg (by decide)]; exact ⟨H, LC, by show jn J2 ≤ _; omega, fun z => absurd z (by show ¬ 4 = 0; decide), Or.inr (Or.inr rfl)⟩
      | true =>
        rw [if_pos rfl]
        have hN : jn J + 400 * (m + 1) ≤ 2000000 := hJ
        have hN2 : jn J2 + 343 ≤ jn J + 400 * (m + 1) := aux_343 JC a4
        have h01 : C j 0 = 1 := (H j hj).2 r
        refine chr_ok (k := chz F a5 m) H hj h01 LC hN hN2 (fun ph J3 L3 h3 => ?_)
        have e := ih (uS (cph C (uS C j 11 (C j 11 + 1)) ph) j 2 0) J3 (se + 1) ?_ (CI.off (H.ph (H.c11 hj) ph)) L3 (aux_373 h3 JC a4 hJ).1
        · exact ⟨e.1, e.2.1, Nat.le_trans e.2.2.1 (aux_373 h3 JC a4 hJ).2, e.2.2.2⟩
        · have s : ∀ i, cph C (uS C j 11 (C j 11 + 1)) ph i 2 = C i 2 := fun i => by
            unfold cph
            split
            · exact uS_ne (by omega)
            · rfl
          have := rc_off (C := cph C (uS C j 11 (C j 11 + 1)) ph) hj (by rw [s]; exact r)
          rw [rc_same s] at this
          omega
    · rw [if_neg hj]
      refine ⟨H, a3, by show jn J1 ≤ _; omega, fun z => ?_, ?_⟩
      · exfalso
        have : (if j = 4 then 3 else 4) = 0 := z
        split at this <;> omega
      · show (if j = 4 then 3 else 4) = 0 ∨ (if j = 4 then 3 else 4) = 3 ∨ (if j = 4 then 3 else 4) = 4
        split <;> omega
