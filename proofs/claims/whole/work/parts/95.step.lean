/-! a run on both sides -/
theorem le_m {x y : Nat} (h : x ≤ y) (hy : y ≤ 1000000) : x ≤ 1000000 := Nat.le_trans h hy
def rOK (C : st_S) (J : st_J) : Prop := CI C ∧ JL J ∧ jn J ≤ 1000000
theorem rst_ok {F : List Int32} {R : st_V} {T : Nat → Int32} {j z : Nat} {am rnd day : Int32} {C : st_S} {J : st_J} {t : Nat} (hj : j < 4) (hz : 3 ≤ z) (H : CI C) (L : JL J) (ht : t ≤ 1) (hJ : jn J ≤ 2003) : rOK (rst F R T j z am rnd day C J t).2.1 (rst F R T j z am rnd day C J t).2.2.1 := by
  obtain ⟨p1, p2, p3, p4⟩ := rda_ok (F := F) (R := R) hj hz H L ht hJ (by decide)
  unfold rst
  generalize rda F R j z C J t = r at p1 p2 p3 p4
  obtain ⟨rok, rC, rJ, rt, rre⟩ := r
  dsimp only at p1 p2 p3 p4 ⊢
  have b : rOK rC rJ := ⟨p1, p2, le_m p3 (by decide)⟩
  split
  · split
    · unfold dcd
      obtain ⟨a1, a2, a3⟩ := tk_0 (F := F) (L := 11) (n := 7) hz (by decide) p4 p2 p3 (by decide)
      generalize tk F 11 z 7 340 rJ 0 rt 0 5 0 0 = q at a1 a2 a3
      obtain ⟨ok, J1, t1, ph⟩ := q
      dsimp only at a1 a2 a3 ⊢
      split
      · exact ⟨p1.ph (p1.exe hj) ph, a1, le_m a2 (by decide)⟩
      · exact ⟨p1.ph (p1.exe hj) ph, a1, le_m a2 (by decide)⟩
    · exact b
  · exact b
theorem runz_ok {F : List Int32} {R : st_V} {T : Nat → Int32} {am rnd day : Int32} {C : st_S} {J : st_J} (HB : ∀ j, j < 4 → BC (C j)) (L : JL (J0 J)) : rOK (runz F R T am rnd day C J).2.1 (runz F R T am rnd day C J).2.2.1 := by
  have H2 : CI (rdy C) := rdy_CI HB
  obtain ⟨LC, JC⟩ := clt_L (F := F) (p := decide (¬ anyR (fun j => rdy C j 2) = 0)) (k := 1) (x := 0) 3 (J0 J) false L (by show 0 + 3 ≤ 2000000; decide)
  unfold runz
  generalize clt F (decide (¬ anyR (fun j => rdy C j 2) = 0)) 1 0 3 (J0 J) false = cl at LC JC
  obtain ⟨an, hd, J1⟩ := cl
  dsimp only at LC JC ⊢
  have JC : jn J1 ≤ 3 := by have : jn (J0 J) = 0 := rfl; rw [this] at JC; exact JC
  cases an with
  | false => rw [if_neg (by decide)]; exact ⟨H2, LC, le_m JC (by decide)⟩
  | true =>
    rw [if_pos rfl]
    have h5 : jn J1 + 400 * 5 ≤ 2000000 := Nat.le_trans (Nat.add_le_add_right JC (400 * 5)) (by decide)
    have ok := chz_ok (F := F) (a5 := T 5) 5 (rdy C) J1 0 (Nat.lt_succ_of_le (rc_le _)) H2 LC h5
    have okJ : ∀ {x : Nat}, x ≤ jn J1 + 400 * 5 → x ≤ 2003 := fun h => Nat.le_trans h (Nat.add_le_add_right JC (400 * 5))
    generalize chz F (T 5) 5 (rdy C) J1 0 = z at ok
    obtain ⟨zc, zC, zJ, zse, zj, zt⟩ := z
    obtain ⟨o1, o2, o3, o4, o5⟩ := ok
    dsimp only at o1 o2 o3 o4 o5
    have o3 := okJ o3
    unfold runz2
    dsimp only
    by_cases hc : zc = 0
    · subst hc
      rw [if_pos rfl]
      obtain ⟨hj, ht, h01⟩ := o4 rfl
      obtain ⟨z6, z3, z16⟩ := o1.size hj h01
      exact rst_ok hj z3 o1 o2 ht o3
    · rw [if_neg hc]
      exact ⟨o1, o2, le_m o3 (by decide)⟩
theorem step_run {S : st_S} {V : st_V} (I : Inv S V) (am rnd day : Int32) : Step 62 100 [.int am, .int rnd, .int day] S V := by
  obtain ⟨C, R, F, J, T, P, X, M, B⟩ := I
  have lF : F.length = 128 := by rw [← X.2.2.1]; exact X.len (by decide)
  have L : JL (J0 J) := ⟨by show J.1.length = 128; rw [← X.2.2.2.1.1]; exact X.len (by decide), by show J.2.1.length = 128; rw [← X.2.2.2.1.2.1]; exact X.len (by decide), by show J.2.2.1.length = 128; rw [← X.2.2.2.1.2.2.1]; exact X.len (by decide), by show 0 ≤ 2000000; decide, Nat.le_refl 0⟩
  obtain ⟨S1, V1, e1, X1, F1⟩ := ev_run (d := 31) (am := am) (rnd := rnd) (day := day) X B.1 B.2.1 lF L
  have M1 : MX S1 V1 C R F J T P := M.far (fun a k ha => F1.1 a k (by unfold klS; omega)) (fun a ha => F1.2.1 a (by unfold klV; omega))
  obtain ⟨S2, V2, e2, M2, F2⟩ := ev_mrun (d := 34) (am := am) (rnd := rnd) (day := day) M1 B.1 B.2.1 lF B.2.2.2.2.1 B.2.2.2.2.2 L
  have X2 := X1.far (S' := S2) (V' := V2) (fun a k ha => F2.1 a k (by unfold kmS; omega)) (fun a ha => F2.2.1 a (by unfold kmV; omega))
  obtain ⟨r1, r2, r3⟩ := runz_ok (F := F) (R := R) (T := T) (am := am) (rnd := rnd) (day := day) B.1 L
  exact ⟨_, S1, V1, S2, V2, e1, e2, _, R, F, _, T, _, X2, M2, fun j hj => (r1 j hj).1, B.2.1, ⟨r3, Nat.le_trans r2.2.2.2.2 r3⟩, B.2.2.2⟩
