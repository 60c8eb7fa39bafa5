/-! records are read, the card decides: what both sides do -/
def nrec (R : st_V) (j : Nat) : Nat := if 0 < (R (3 * j + 2)).length then 3 else if 0 < (R (3 * j + 1)).length then 2 else if 0 < (R (3 * j)).length then 1 else 0
theorem nrec_le (R : st_V) (j : Nat) : nrec R j ≤ 3 := by
  unfold nrec
  split
  · decide
  · split
    · decide
    · split <;> decide
theorem nI_pos0 {n : Nat} (h : n < 1000) : (0 : Int32) < nI n ↔ 0 < n := by
  constructor
  · intro z
    apply Nat.lt_of_not_le
    intro h0
    have : n = 0 := by omega
    rw [this] at z
    exact absurd z (by decide)
  · intro z; exact nI_lt (a := 0) z (by omega)
theorem cnt_nrec {R : st_V} {j : Nat} (h : ∀ i, i < 12 → (R i).length ≤ 24) (hj : j < 4) : cnt3 (nI (R (3 * j)).length) (nI (R (3 * j + 1)).length) (nI (R (3 * j + 2)).length) = nI (nrec R j) := by
  have a0 := nI_pos0 (n := (R (3 * j)).length) (by have := h (3 * j) (by omega); omega)
  have a1 := nI_pos0 (n := (R (3 * j + 1)).length) (by have := h (3 * j + 1) (by omega); omega)
  have a2 := nI_pos0 (n := (R (3 * j + 2)).length) (by have := h (3 * j + 2) (by omega); omega)
  unfold cnt3 nrec
  by_cases h2 : 0 < (R (3 * j + 2)).length
  · rw [if_pos (a2.mpr h2), if_pos h2]; rfl
  · rw [if_neg (fun z => h2 (a2.mp z)), if_neg h2]
    by_cases h1 : 0 < (R (3 * j + 1)).length
    · rw [if_pos (a1.mpr h1), if_pos h1]; rfl
    · rw [if_neg (fun z => h1 (a1.mp z)), if_neg h1]
      by_cases h0 : 0 < (R (3 * j)).length
      · rw [if_pos (a0.mpr h0), if_pos h0]; rfl
      · rw [if_neg (fun z => h0 (a0.mp z)), if_neg h0]; rfl
abbrev rd_T : Type := Bool × st_S × st_J × Nat × Int32
def c11 (C : st_S) (j : Nat) : st_S := uS C j 11 (C j 11 + 1)
def rdz (F : List Int32) (R : st_V) (j z : Nat) : Nat → Nat → st_S → st_J → Nat → Int32 → rd_T
  | 0, _, C, J, t, re => (true, C, J, t, re)
  | m + 1, r, C, J, t, re => if (tk F 2 z (R (3 * j + r)).length 340 J 0 t 0 5 0 0).1 = true then rdz F R j z m (r + 1) (cph C (c11 C j) (tk F 2 z (R (3 * j + r)).length 340 J 0 t 0 5 0 0).2.2.2) (tk F 2 z (R (3 * j + r)).length 340 J 0 t 0 5 0 0).2.1 (tk F 2 z (R (3 * j + r)).length 340 J 0 t 0 5 0 0).2.2.1 (re + 1) else (false, cph C (c11 C j) (tk F 2 z (R (3 * j + r)).length 340 J 0 t 0 5 0 0).2.2.2, (tk F 2 z (R (3 * j + r)).length 340 J 0 t 0 5 0 0).2.1, 0, re)
theorem rdz_s (F : List Int32) (R : st_V) (j z m r : Nat) (C : st_S) (J : st_J) (t : Nat) (re : Int32) : rdz F R j z (m + 1) r C J t re = if (tk F 2 z (R (3 * j + r)).length 340 J 0 t 0 5 0 0).1 = true then rdz F R j z m (r + 1) (cph C (c11 C j) (tk F 2 z (R (3 * j + r)).length 340 J 0 t 0 5 0 0).2.2.2) (tk F 2 z (R (3 * j + r)).length 340 J 0 t 0 5 0 0).2.1 (tk F 2 z (R (3 * j + r)).length 340 J 0 t 0 5 0 0).2.2.1 (re + 1) else (false, cph C (c11 C j) (tk F 2 z (R (3 * j + r)).length 340 J 0 t 0 5 0 0).2.2.2, (tk F 2 z (R (3 * j + r)).length 340 J 0 t 0 5 0 0).2.1, 0, re) := rfl
def rda (F : List Int32) (R : st_V) (j z : Nat) (C : st_S) (J : st_J) (t : Nat) : rd_T := if (tk F 5 z 1 340 J 0 t 0 5 0 0).1 = true then rdz F R j z (nrec R j) 0 (cph C (c11 C j) (tk F 5 z 1 340 J 0 t 0 5 0 0).2.2.2) (tk F 5 z 1 340 J 0 t 0 5 0 0).2.1 (tk F 5 z 1 340 J 0 t 0 5 0 0).2.2.1 0 else (false, cph C (c11 C j) (tk F 5 z 1 340 J 0 t 0 5 0 0).2.2.2, (tk F 5 z 1 340 J 0 t 0 5 0 0).2.1, 0, 0)
theorem le_340 {x B : Nat} (h : x ≤ B) (hB : B + 340 ≤ 2000000) : x + 340 ≤ 2000000 := Nat.le_trans (Nat.add_le_add_right h 340) hB
theorem le_340b {x y B : Nat} (h : x ≤ y + 340) (h2 : y ≤ B) : x ≤ B + 340 := Nat.le_trans h (Nat.add_le_add_right h2 340)
theorem cph_k {C C1 : st_S} {ph i k : Nat} (h : C1 i k = C i k) : cph C C1 ph i k = C i k := by
  unfold cph
  split
  · exact h
  · rfl
def rdOK (z : rd_T) (B : Nat) : Prop := CI z.2.1 ∧ JL z.2.2.1 ∧ jn z.2.2.1 ≤ B ∧ z.2.2.2.1 ≤ 1
theorem tk_0 {F : List Int32} {L z n t : Nat} {J : st_J} {B : Nat} (hz : 3 ≤ z) (hL : 0 < L) (ht : t ≤ 1) (LJ : JL J) (hJ : jn J ≤ B) (hB : B + 340 ≤ 2000000) : JL (tk F L z n 340 J 0 t 0 5 0 0).2.1 ∧ jn (tk F L z n 340 J 0 t 0 5 0 0).2.1 ≤ B + 340 ∧ (tk F L z n 340 J 0 t 0 5 0 0).2.2.1 ≤ 1 := by
  obtain ⟨a, b, c, _⟩ := tk_L (F := F) (L := L) (n := n) (z := z) hz 340 J 0 t 0 5 0 0 ⟨ht, Or.inl ⟨rfl, Or.inl rfl, hL⟩⟩ LJ (le_340 hJ hB)
  exact ⟨a, le_340b b hJ, c⟩
theorem rdz_ok {F : List Int32} {R : st_V} {j z : Nat} (hj : j < 4) (hz : 3 ≤ z) : ∀ (m r : Nat) (C : st_S) (J : st_J) (t : Nat) (re : Int32) (B : Nat), CI C → JL J → t ≤ 1 → jn J ≤ B → B + 340 * m ≤ 2000000 → rdOK (rdz F R j z m r C J t re) (B + 340 * m) := by
  intro m
  induction m with
  | zero => intro r C J t re B H L ht hJ hB; exact ⟨H, L, hJ, ht⟩
  | succ m ih =>
    intro r C J t re B H L ht hJ hB
    have e : B + 340 * (m + 1) = B + 340 + 340 * m := by rw [Nat.mul_add, Nat.mul_one, Nat.add_comm (340 * m), Nat.add_assoc]
    rw [e] at hB ⊢
    obtain ⟨a, b, c⟩ := tk_0 (F := F) (L := 2) (n := (R (3 * j + r)).length) hz (by decide) ht L hJ (Nat.le_trans (Nat.le_add_right _ _) hB)
    rw [rdz_s]
    generalize tk F 2 z (R (3 * j + r)).length 340 J 0 t 0 5 0 0 = q at a b c
    obtain ⟨ok, J1, t1, ph⟩ := q
    dsimp only at a b c ⊢
    have H1 : CI (cph C (c11 C j) ph) := H.ph (H.c11 hj) ph
    cases ok with
    | true => rw [if_pos rfl]; exact ih (r + 1) _ J1 t1 (re + 1) (B + 340) H1 a c b hB
    | false => rw [if_neg (by decide)]; exact ⟨H1, a, Nat.le_trans b (Nat.le_add_right _ _), by show 0 ≤ 1; decide⟩
theorem rda_ok {F : List Int32} {R : st_V} {j z : Nat} {C : st_S} {J : st_J} {t B : Nat} (hj : j < 4) (hz : 3 ≤ z) (H : CI C) (L : JL J) (ht : t ≤ 1) (hJ : jn J ≤ B) (hB : B + 1360 ≤ 2000000) : rdOK (rda F R j z C J t) (B + 1360) := by
  obtain ⟨a, b, c⟩ := tk_0 (F := F) (L := 5) (n := 1) hz (by decide) ht L hJ (Nat.le_trans (Nat.add_le_add_left (by decide) B) hB)
  unfold rda
  generalize tk F 5 z 1 340 J 0 t 0 5 0 0 = q at a b c
  obtain ⟨ok, J1, t1, ph⟩ := q
  dsimp only at a b c ⊢
  have H1 : CI (cph C (c11 C j) ph) := H.ph (H.c11 hj) ph
  have hn := nrec_le R j
  have hm : 340 * nrec R j ≤ 1020 := Nat.le_trans (Nat.mul_le_mul_left 340 hn) (by decide)
  have hs : B + 340 + 340 * nrec R j ≤ B + 1360 := by
    rw [Nat.add_assoc]
    exact Nat.add_le_add_left (Nat.add_le_add_left hm 340) B
  cases ok with
  | true =>
    rw [if_pos rfl]
    have := rdz_ok (F := F) (R := R) hj hz (nrec R j) 0 (cph C (c11 C j) ph) J1 t1 0 (B + 340) H1 a c b (Nat.le_trans hs hB)
    exact ⟨this.1, this.2.1, Nat.le_trans this.2.2.1 hs, this.2.2.2⟩
  | false => rw [if_neg (by decide)]; exact ⟨H1, a, Nat.le_trans b (Nat.add_le_add_left (by decide) B), by show 0 ≤ 1; decide⟩
theorem rdz_0 {F : List Int32} {R : st_V} {j z : Nat} : ∀ (m r : Nat) (C : st_S) (J : st_J) (t : Nat) (re : Int32), (rdz F R j z m r C J t re).2.1 j 0 = C j 0 ∧ (rdz F R j z m r C J t re).2.1 j 6 = C j 6 := by
  intro m
  induction m with
  | zero => intro r C J t re; exact ⟨rfl, rfl⟩
  | succ m ih =>
    intro r C J t re
    rw [rdz_s]
    generalize tk F 2 z (R (3 * j + r)).length 340 J 0 t 0 5 0 0 = q
    obtain ⟨ok, J1, t1, ph⟩ := q
    dsimp only
    have k0 : cph C (c11 C j) ph j 0 = C j 0 := cph_k (uS_ne (by omega))
    have k6 : cph C (c11 C j) ph j 6 = C j 6 := cph_k (uS_ne (by omega))
    split
    · rw [(ih _ _ _ _ _).1, (ih _ _ _ _ _).2]; exact ⟨k0, k6⟩
    · exact ⟨k0, k6⟩
theorem rda_0 {F : List Int32} {R : st_V} {j z : Nat} {C : st_S} {J : st_J} {t : Nat} : (rda F R j z C J t).2.1 j 0 = C j 0 ∧ (rda F R j z C J t).2.1 j 6 = C j 6 := by
  unfold rda
  generalize tk F 5 z 1 340 J 0 t 0 5 0 0 = q
  obtain ⟨ok, J1, t1, ph⟩ := q
  dsimp only
  have k0 : cph C (c11 C j) ph j 0 = C j 0 := cph_k (uS_ne (by omega))
  have k6 : cph C (c11 C j) ph j 6 = C j 6 := cph_k (uS_ne (by omega))
  split
  · rw [(rdz_0 _ _ _ _ _ _).1, (rdz_0 _ _ _ _ _ _).2]; exact ⟨k0, k6⟩
  · exact ⟨k0, k6⟩
theorem exe_2 {C : st_S} {R : st_V} {j : Nat} {am : Int32} (h : ∀ i, i < 12 → (R i).length ≤ 24) (hj : j < 4) : exe C R j ([2] ++ oct4 am) = (c11 C j, [nI (nrec R j)]) := by
  rw [← cnt_nrec h hj]; rfl
theorem exe_3 {C : st_S} {R : st_V} {j r : Nat} (hr : r < 3) : exe C R j [3, nI r] = (c11 C j, R (3 * j + r)) := by
  have : (nI r).toNatClampNeg = r := nI_clamp (by omega)
  show (c11 C j, R (3 * j + (nI r).toNatClampNeg)) = _
  rw [this]
def cmd4 (ty am rnd fi : Int32) : List Int32 := [4] ++ [ty] ++ oct4 am ++ oct4 rnd ++ [fi]
theorem exe_4 {C : st_S} {R : st_V} {j : Nat} {ty am rnd fi : Int32} : (exe C R j (cmd4 ty am rnd fi)).2.length = 7 := rfl
abbrev rs_T : Type := Int32 × st_S × st_J × Int32 × Int32 × Int32 × Int32 × Int32
/-- the decision -/
def dcd (F : List Int32) (R : st_V) (T : Nat → Int32) (j z : Nat) (am rnd day : Int32) (it : it_T) (C : st_S) (J : st_J) (t : Nat) (re : Int32) : rs_T :=
  if (tk F 11 z 7 340 J 0 t 0 5 0 0).1 = true then
    ((exe C R j (cmd4 (typ T (itv 4 (it 4)) (fnd T it am rnd day)) am rnd (fnd T it am rnd day))).2.getD 0 0, cph C (exe C R j (cmd4 (typ T (itv 4 (it 4)) (fnd T it am rnd day)) am rnd (fnd T it am rnd day))).1 (tk F 11 z 7 340 J 0 t 0 5 0 0).2.2.2, (tk F 11 z 7 340 J 0 t 0 5 0 0).2.1, fnd T it am rnd day, typ T (itv 4 (it 4)) (fnd T it am rnd day), pair2 (exe C R j (cmd4 (typ T (itv 4 (it 4)) (fnd T it am rnd day)) am rnd (fnd T it am rnd day))).2 1, int4 (exe C R j (cmd4 (typ T (itv 4 (it 4)) (fnd T it am rnd day)) am rnd (fnd T it am rnd day))).2 3, re)
  else (4, cph C (exe C R j (cmd4 (typ T (itv 4 (it 4)) (fnd T it am rnd day)) am rnd (fnd T it am rnd day))).1 (tk F 11 z 7 340 J 0 t 0 5 0 0).2.2.2, (tk F 11 z 7 340 J 0 t 0 5 0 0).2.1, fnd T it am rnd day, typ T (itv 4 (it 4)) (fnd T it am rnd day), 0, 0, re)
/-- all behind the choice -/
def rst (F : List Int32) (R : st_V) (T : Nat → Int32) (j z : Nat) (am rnd day : Int32) (C : st_S) (J : st_J) (t : Nat) : rs_T :=
  if (rda F R j z C J t).1 = true then
    if ((tka (fun i => R (3 * j + i)) (nrec R j) 0 true it0).1 && (fit 1 ((tka (fun i => R (3 * j + i)) (nrec R j) 0 true it0).2 1) && fit 4 ((tka (fun i => R (3 * j + i)) (nrec R j) 0 true it0).2 4))) = true then dcd F R T j z am rnd day (tka (fun i => R (3 * j + i)) (nrec R j) 0 true it0).2 (rda F R j z C J t).2.1 (rda F R j z C J t).2.2.1 (rda F R j z C J t).2.2.2.1 (rda F R j z C J t).2.2.2.2
    else (5, (rda F R j z C J t).2.1, (rda F R j z C J t).2.2.1, 0, -1, 0, 0, (rda F R j z C J t).2.2.2.2)
  else (4, (rda F R j z C J t).2.1, (rda F R j z C J t).2.2.1, 0, -1, 0, 0, (rda F R j z C J t).2.2.2.2)
/-- items are octets -/
def ItO (it : it_T) : Prop := ∀ t ys, it t = some ys → Oc ys
theorem Oc.sub {xs : List Int32} (O : Oc xs) (a n : Nat) : Oc ((xs.drop a).take n) := by
  refine ⟨?_, fun x hx => O.2 x (List.mem_of_mem_drop (List.mem_of_mem_take hx))⟩
  have := O.1
  rw [List.length_take, List.length_drop]; omega
theorem ItO.keep {it : it_T} {tag : Nat} {ys : List Int32} (H : ItO it) (O : Oc ys) : ItO (kp it tag ys) := by
  unfold kp
  split
  · intro t zs h
    dsimp only at h
    split at h
    · cases h; exact O
    · exact H t zs h
  · exact H
theorem tp_O {xs : List Int32} (O : Oc xs) : ∀ (f i to lv : Nat) (it : it_T), ItO it → ItO (tp xs f i to lv it).2 := by
  intro f
  induction f with
  | zero => intro i to lv it H; exact H
  | succ f ih =>
    intro i to lv it H
    rw [tp_s]
    split
    · split
      · split
        · exact ih _ _ _ _ (H.keep (O.sub _ _))
        · split
          · exact H
          · split
            · exact ih _ _ _ _ (ih _ _ _ _ H)
            · exact ih _ _ _ _ H
      · exact H
    · exact H
theorem tka_O {rs : Nat → List Int32} {n : Nat} (O : ∀ r, r < n → Oc (rs r)) : ∀ (m r : Nat) (g : Bool) (it : it_T), r + m = n → ItO it → ItO (tka rs m r g it).2 := by
  intro m
  induction m with
  | zero => intro r g it _ H; exact H
  | succ m ih =>
    intro r g it hr H
    rw [tka_s]
    exact ih _ _ _ (by omega) (tp_O (O r (by omega)) _ _ _ _ _ H)
theorem ItO.itv {it : it_T} (H : ItO it) (t : Nat) : Oc (itv t (it t)) := by
  have e : Oc ([] : List Int32) := ⟨by decide, fun x hx => by cases hx⟩
  show Oc (if fit t (it t) = true then (it t).getD [] else [])
  split
  · cases h : it t with
    | none => exact e
    | some ys => exact H t ys h
  · exact e
