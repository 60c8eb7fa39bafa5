/-! WHAT BOTH SIDES HOLD: C j k (card j's number k), R i (the octets of record i = 3 * card + number), F (faults), J (the exchanges: kinds, numbers, answered, how many, how many without an answer), T (the terminal's settings), P (what told tells) -/
abbrev st_J : Type := List Int32 × List Int32 × List Int32 × Nat × Nat
def lenX : List (Nat × Nat) := [(64, 128), (65, 128), (66, 128), (67, 128), (70, 16), (75, 24), (77, 24), (79, 24), (81, 24), (83, 24), (85, 24), (86, 6), (87, 6), (90, 11), (92, 24), (13, 16), (15, 11), (17, 24), (28, 16), (30, 11), (32, 24), (43, 16), (45, 11), (47, 24), (58, 16), (60, 11), (62, 24)]
def lenM : List (Nat × Nat) := [(94, 4), (95, 4), (96, 4), (97, 4), (98, 4), (99, 4), (100, 4), (101, 4), (102, 4), (103, 4), (104, 4), (105, 4), (106, 288), (107, 12), (108, 128), (109, 128), (110, 128), (111, 128), (112, 11), (113, 16), (114, 24), (115, 24), (116, 72), (117, 3), (118, 5), (119, 6), (120, 6)]
def tm (k : Nat) : Nat := match k with
  | 0 => 14
  | 1 => 15
  | 2 => 16
  | 3 => 19
  | 4 => 17
  | _ => 18
def pm (k : Nat) : Nat := match k with
  | 0 => 24
  | 1 => 25
  | 2 => 26
  | 3 => 27
  | 4 => 28
  | 5 => 29
  | 6 => 33
  | _ => 34
def CX (S : st_S) (V : st_V) (C : st_S) (R : st_V) (F : List Int32) (J : st_J) (T P : Nat → Int32) : Prop :=
  (∀ j, j < 4 → ∀ k, k < 12 → S (cb j) k = C j k) ∧
  (∀ j, j < 4 → ∀ r, r < 3 → ∃ jk, V (rr (cb j) r + 1) = R (3 * j + r) ++ jk ∧ (R (3 * j + r)).length + jk.length = 24 ∧ S (rr (cb j) r) 1 = nI (R (3 * j + r)).length) ∧
  V 64 = F ∧ (V 65 = J.1 ∧ V 66 = J.2.1 ∧ V 67 = J.2.2.1 ∧ S 63 4 = nI J.2.2.2.1 ∧ S 63 5 = nI J.2.2.2.2) ∧
  (∀ k, k < 6 → S 71 k = T k) ∧ (∀ k, k < 8 → S 88 k = P k) ∧ ∀ p ∈ lenX, (V p.1).length = p.2
def MX (S : st_S) (V : st_V) (C : st_S) (R : st_V) (F : List Int32) (J : st_J) (T P : Nat → Int32) : Prop :=
  (∀ j, j < 4 → ∀ k, k < 12 → (V (94 + k))[j]? = some (C j k)) ∧
  (∀ i, i < 12 → (V 107)[i]? = some (nI (R i).length) ∧ ∀ k, k < (R i).length → (V 106)[24 * i + k]? = (R i)[k]?) ∧
  V 108 = F ∧ (V 109 = J.1 ∧ V 110 = J.2.1 ∧ V 111 = J.2.2.1 ∧ S 93 30 = nI J.2.2.2.1 ∧ S 93 31 = nI J.2.2.2.2) ∧
  (∀ k, k < 6 → S 93 (tm k) = T k) ∧ (∀ k, k < 8 → S 93 (pm k) = P k) ∧ ∀ p ∈ lenM, (V p.1).length = p.2
def oct (x : Int32) : Prop := ∃ m, m < 256 ∧ x = nI m
def B01 (x : Int32) : Prop := x = 0 ∨ x = 1
def BC (c : Nat → Int32) : Prop := B01 (c 0) ∧ B01 (c 1) ∧ B01 (c 2) ∧ (c 1 = 1 → c 0 = 1) ∧ (c 0 = 1 → oct (c 3) ∧ (∃ p, p < 8 ∧ c 4 = nI p) ∧ ∃ z, 3 ≤ z ∧ z ≤ 16 ∧ c 6 = nI z) ∧ ∃ q, q < 65536 ∧ c 7 = nI q
def BX (C : st_S) (R : st_V) (F : List Int32) (J : st_J) (T : Nat → Int32) : Prop :=
  (∀ j, j < 4 → BC (C j)) ∧ (∀ i, i < 12 → (R i).length ≤ 24 ∧ ∀ x ∈ R i, oct x) ∧ (J.2.2.2.1 ≤ 1000000 ∧ J.2.2.2.2 ≤ 1000000) ∧ B01 (T 3) ∧ oct (T 2) ∧ oct (T 5)
def Inv (S : st_S) (V : st_V) : Prop := ∃ C R F J T P, CX S V C R F J T P ∧ MX S V C R F J T P ∧ BX C R F J T
/-- a number of a row of numbers -/
def uN (T : Nat → Int32) (k : Nat) (v : Int32) : Nat → Int32 := fun j => if j = k then v else T j
theorem uN_self (T : Nat → Int32) (k : Nat) (v : Int32) : uN T k v k = v := if_pos rfl
theorem uN_ne {T : Nat → Int32} {k j : Nat} {v : Int32} (h : ¬ j = k) : uN T k v j = T j := if_neg h
section CXU
variable {S : st_S} {V : st_V} {C : st_S} {R : st_V} {F : List Int32} {J : st_J} {T P : Nat → Int32}
theorem cb_ne {j a : Nat} (hj : j < 4) (ha : 63 ≤ a) : ¬ cb j = a := by unfold cb; omega
theorem rr_ne {j r a : Nat} (hj : j < 4) (hr : r < 3) (ha : 63 ≤ a) : ¬ rr (cb j) r = a := by unfold rr cb; omega
theorem rr1_ne {j r a : Nat} (hj : j < 4) (hr : r < 3) (ha : 63 ≤ a) : ¬ rr (cb j) r + 1 = a := by unfold rr cb; omega
theorem rr_cb {i j r : Nat} (hi : i < 4) (hj : j < 4) (hr : r < 3) : ¬ rr (cb j) r = cb i := by unfold rr cb; omega
theorem rr_inj {j r j' r' : Nat} (hj : j < 4) (hr : r < 3) (hj' : j' < 4) (hr' : r' < 3) (h : rr (cb j) r = rr (cb j') r') : j = j' ∧ r = r' := by unfold rr cb at h; omega
theorem lenX_ne {j r : Nat} (hj : j < 4) (hr : r < 3) : ∀ p ∈ lenX, ¬ p.1 = rr (cb j) r + 1 := by
  rcases j4 hj with rfl | rfl | rfl | rfl <;> rcases r3 hr with rfl | rfl | rfl <;> decide
/-- the class's numbers of the reference do not matter to it, nor the other way round -/
theorem CX.far {S' : st_S} {V' : st_V} (H : CX S V C R F J T P) (h1 : ∀ a k, a < 93 → S' a k = S a k) (h2 : ∀ a, a < 93 → V' a = V a) : CX S' V' C R F J T P := by
  obtain ⟨a1, a2, a3, ⟨a4, a5, a6, a7, a8⟩, a9, a10, a11⟩ := H
  refine ⟨fun j hj k hk => ?_, fun j hj r hr => ?_, ?_, ⟨?_, ?_, ?_, ?_, ?_⟩, fun k hk => ?_, fun k hk => ?_, fun p hp => ?_⟩
  · rw [h1 _ _ (by unfold cb; omega)]; exact a1 j hj k hk
  · rw [h1 _ _ (by unfold rr cb; omega), h2 _ (by unfold rr cb; omega)]; exact a2 j hj r hr
  · rw [h2 _ (by decide)]; exact a3
  · rw [h2 _ (by decide)]; exact a4
  · rw [h2 _ (by decide)]; exact a5
  · rw [h2 _ (by decide)]; exact a6
  · rw [h1 _ _ (by decide)]; exact a7
  · rw [h1 _ _ (by decide)]; exact a8
  · rw [h1 _ _ (by decide)]; exact a9 k hk
  · rw [h1 _ _ (by decide)]; exact a10 k hk
  · rw [h2 _ ((by decide : ∀ p ∈ lenX, p.1 < 93) p hp)]; exact a11 p hp
theorem MX.far {S' : st_S} {V' : st_V} (H : MX S V C R F J T P) (h1 : ∀ a k, 93 ≤ a → S' a k = S a k) (h2 : ∀ a, 93 ≤ a → V' a = V a) : MX S' V' C R F J T P := by
  obtain ⟨a1, a2, a3, ⟨a4, a5, a6, a7, a8⟩, a9, a10, a11⟩ := H
  refine ⟨fun j hj k hk => ?_, fun i hi => ?_, ?_, ⟨?_, ?_, ?_, ?_, ?_⟩, fun k hk => ?_, fun k hk => ?_, fun p hp => ?_⟩
  · rw [h2 _ (by omega)]; exact a1 j hj k hk
  · rw [h2 _ (by decide), h2 _ (by decide)]; exact a2 i hi
  · rw [h2 _ (by decide)]; exact a3
  · rw [h2 _ (by decide)]; exact a4
  · rw [h2 _ (by decide)]; exact a5
  · rw [h2 _ (by decide)]; exact a6
  · rw [h1 _ _ (by decide)]; exact a7
  · rw [h1 _ _ (by decide)]; exact a8
  · rw [h1 _ _ (by decide)]; exact a9 k hk
  · rw [h1 _ _ (by decide)]; exact a10 k hk
  · rw [h2 _ ((by decide : ∀ p ∈ lenM, 93 ≤ p.1) p hp)]; exact a11 p hp
theorem CX.setC {j k : Nat} {v : Int32} (H : CX S V C R F J T P) (hj : j < 4) (hk : k < 12) : CX (uS S (cb j) k v) V (uS C j k v) R F J T P := by
  obtain ⟨a1, a2, a3, ⟨a4, a5, a6, a7, a8⟩, a9, a10, a11⟩ := H
  refine ⟨fun i hi l hl => ?_, fun i hi r hr => ?_, a3, ⟨a4, a5, a6, ?_, ?_⟩, fun l hl => ?_, fun l hl => ?_, a11⟩
  · by_cases h : i = j ∧ l = k
    · rw [h.1, h.2, uS_self, uS_self]
    · rw [uS_ne h, uS_ne (fun z => h ⟨by have := z.1; unfold cb at this; omega, z.2⟩)]; exact a1 i hi l hl
  · rw [uS_ne (fun z => rr_cb hj hi hr z.1)]; exact a2 i hi r hr
  · rw [uS_ne (fun z => cb_ne hj (by decide) z.1.symm)]; exact a7
  · rw [uS_ne (fun z => cb_ne hj (by decide) z.1.symm)]; exact a8
  · rw [uS_ne (fun z => cb_ne hj (by decide) z.1.symm)]; exact a9 l hl
  · rw [uS_ne (fun z => cb_ne hj (by decide) z.1.symm)]; exact a10 l hl
theorem CX.setT {k : Nat} {v : Int32} (H : CX S V C R F J T P) : CX (uS S 71 k v) V C R F J (uN T k v) P := by
  obtain ⟨a1, a2, a3, ⟨a4, a5, a6, a7, a8⟩, a9, a10, a11⟩ := H
  refine ⟨fun i hi l hl => ?_, fun i hi r hr => ?_, a3, ⟨a4, a5, a6, ?_, ?_⟩, fun l hl => ?_, fun l hl => ?_, a11⟩
  · rw [uS_ne (fun z => cb_ne hi (by decide) z.1)]; exact a1 i hi l hl
  · rw [uS_ne (fun z => rr_ne hi hr (by decide) z.1)]; exact a2 i hi r hr
  · rw [uS_ne (fun z => by have := z.1; omega)]; exact a7
  · rw [uS_ne (fun z => by have := z.1; omega)]; exact a8
  · by_cases h : l = k
    · rw [h, uS_self, uN_self]
    · rw [uS_ne (fun z => h z.2), uN_ne h]; exact a9 l hl
  · rw [uS_ne (fun z => by have := z.1; omega)]; exact a10 l hl
theorem CX.setF {j : Nat} {v : Int32} (H : CX S V C R F J T P) : CX S (sV V 64 j v) C R (F.set j v) J T P := by
  obtain ⟨a1, a2, a3, ⟨a4, a5, a6, a7, a8⟩, a9, a10, a11⟩ := H
  refine ⟨a1, fun i hi r hr => ?_, by rw [sV_self, a3], ⟨?_, ?_, ?_, a7, a8⟩, a9, a10, fun p hp => ?_⟩
  · rw [sV_ne (rr1_ne hi hr (by decide))]; exact a2 i hi r hr
  · rw [sV_ne (by decide)]; exact a4
  · rw [sV_ne (by decide)]; exact a5
  · rw [sV_ne (by decide)]; exact a6
  · rw [sV_len]; exact a11 p hp
/-- an octet comes to a record -/
theorem CX.addR {j r : Nat} {v : Int32} (H : CX S V C R F J T P) (hj : j < 4) (hr : r < 3) (hl : (R (3 * j + r)).length < 24) : CX (uS S (rr (cb j) r) 1 (nI ((R (3 * j + r)).length + 1))) (sV V (rr (cb j) r + 1) (R (3 * j + r)).length v) C (uV R (3 * j + r) (R (3 * j + r) ++ [v])) F J T P := by
  obtain ⟨a1, a2, a3, ⟨a4, a5, a6, a7, a8⟩, a9, a10, a11⟩ := H
  refine ⟨fun i hi l hl => ?_, fun i hi q hq => ?_, ?_, ⟨?_, ?_, ?_, ?_, ?_⟩, fun l hl => ?_, fun l hl => ?_, fun p hp => ?_⟩
  · rw [uS_ne (fun z => rr_cb hi hj hr z.1.symm)]; exact a1 i hi l hl
  · by_cases h : i = j ∧ q = r
    · obtain ⟨rfl, rfl⟩ := h
      obtain ⟨jk, e1, e2, e3⟩ := a2 i hi q hq
      cases jk with
      | nil => simp at e2; omega
      | cons x jk =>
        refine ⟨jk, ?_, ?_, ?_⟩
        · rw [sV_self, e1, uV_self]; simp
        · rw [uV_self]; simp at e2 ⊢; omega
        · rw [uS_self, uV_self]; simp
    · have hne : ¬ rr (cb i) q = rr (cb j) r := fun z => h (rr_inj hi hq hj hr z)
      rw [uS_ne (fun z => hne z.1), sV_ne (by omega), uV_ne (by omega)]
      exact a2 i hi q hq
  · rw [sV_ne (fun z => rr1_ne hj hr (by decide) z.symm)]; exact a3
  · rw [sV_ne (fun z => rr1_ne hj hr (by decide) z.symm)]; exact a4
  · rw [sV_ne (fun z => rr1_ne hj hr (by decide) z.symm)]; exact a5
  · rw [sV_ne (fun z => rr1_ne hj hr (by decide) z.symm)]; exact a6
  · rw [uS_ne (fun z => rr_ne hj hr (by decide) z.1.symm)]; exact a7
  · rw [uS_ne (fun z => rr_ne hj hr (by decide) z.1.symm)]; exact a8
  · rw [uS_ne (fun z => rr_ne hj hr (by decide) z.1.symm)]; exact a9 l hl
  · rw [uS_ne (fun z => rr_ne hj hr (by decide) z.1.symm)]; exact a10 l hl
  · rw [sV_len]; exact a11 p hp
/-- a record is emptied -/
theorem CX.clrR {j r : Nat} (H : CX S V C R F J T P) (hj : j < 4) (hr : r < 3) : CX (uS S (rr (cb j) r) 1 0) V C (uV R (3 * j + r) []) F J T P := by
  obtain ⟨a1, a2, a3, ⟨a4, a5, a6, a7, a8⟩, a9, a10, a11⟩ := H
  refine ⟨fun i hi l hl => ?_, fun i hi q hq => ?_, a3, ⟨a4, a5, a6, ?_, ?_⟩, fun l hl => ?_, fun l hl => ?_, a11⟩
  · rw [uS_ne (fun z => rr_cb hi hj hr z.1.symm)]; exact a1 i hi l hl
  · by_cases h : i = j ∧ q = r
    · obtain ⟨rfl, rfl⟩ := h
      obtain ⟨jk, e1, e2, e3⟩ := a2 i hi q hq
      exact ⟨R (3 * i + q) ++ jk, by rw [e1, uV_self]; rfl, by rw [uV_self]; simp; omega, by rw [uS_self, uV_self]; rfl⟩
    · have hne : ¬ rr (cb i) q = rr (cb j) r := fun z => h (rr_inj hi hq hj hr z)
      rw [uS_ne (fun z => hne z.1), uV_ne (by omega)]
      exact a2 i hi q hq
  · rw [uS_ne (fun z => rr_ne hj hr (by decide) z.1.symm)]; exact a7
  · rw [uS_ne (fun z => rr_ne hj hr (by decide) z.1.symm)]; exact a8
  · rw [uS_ne (fun z => rr_ne hj hr (by decide) z.1.symm)]; exact a9 l hl
  · rw [uS_ne (fun z => rr_ne hj hr (by decide) z.1.symm)]; exact a10 l hl
theorem MX.len {a n : Nat} (H : MX S V C R F J T P) (h : (a, n) ∈ lenM) : (V a).length = n := H.2.2.2.2.2.2 (a, n) h
theorem CX.len {a n : Nat} (H : CX S V C R F J T P) (h : (a, n) ∈ lenX) : (V a).length = n := H.2.2.2.2.2.2 (a, n) h
theorem MX.setC {j k : Nat} {v : Int32} (H : MX S V C R F J T P) (hj : j < 4) (hk : k < 12) : MX S (sV V (94 + k) j v) (uS C j k v) R F J T P := by
  obtain ⟨a1, a2, a3, ⟨a4, a5, a6, a7, a8⟩, a9, a10, a11⟩ := H
  refine ⟨fun i hi l hl => ?_, fun i hi => ?_, ?_, ⟨?_, ?_, ?_, a7, a8⟩, a9, a10, fun p hp => ?_⟩
  · by_cases h1 : l = k
    · subst h1
      rw [sV_self]
      have hlt : j < (V (94 + l)).length := (List.getElem?_eq_some_iff.mp (a1 j hj l hl)).1
      by_cases h2 : i = j
      · subst h2; rw [List.getElem?_set_self hlt, uS_self]
      · rw [List.getElem?_set_ne (Ne.symm h2), uS_ne (fun z => h2 z.1)]; exact a1 i hi l hl
    · rw [sV_ne (by omega), uS_ne (fun z => h1 z.2)]; exact a1 i hi l hl
  · rw [sV_ne (by omega), sV_ne (by omega)]; exact a2 i hi
  · rw [sV_ne (by omega)]; exact a3
  · rw [sV_ne (by omega)]; exact a4
  · rw [sV_ne (by omega)]; exact a5
  · rw [sV_ne (by omega)]; exact a6
  · rw [sV_len]; exact a11 p hp
theorem tm_inj : ∀ k, k < 6 → ∀ l, l < 6 → tm l = tm k → l = k := by decide
theorem tm_pm : ∀ k, k < 6 → ∀ l, l < 8 → ¬ pm l = tm k := by decide
theorem MX.setT {k : Nat} {v : Int32} (H : MX S V C R F J T P) (hk : k < 6) : MX (uS S 93 (tm k) v) V C R F J (uN T k v) P := by
  obtain ⟨a1, a2, a3, ⟨a4, a5, a6, a7, a8⟩, a9, a10, a11⟩ := H
  refine ⟨a1, a2, a3, ⟨a4, a5, a6, ?_, ?_⟩, fun l hl => ?_, fun l hl => ?_, a11⟩
  · rw [uS_ne (fun z => (by decide : ∀ k, k < 6 → ¬ 30 = tm k) k hk z.2)]; exact a7
  · rw [uS_ne (fun z => (by decide : ∀ k, k < 6 → ¬ 31 = tm k) k hk z.2)]; exact a8
  · by_cases h : l = k
    · rw [h, uS_self, uN_self]
    · rw [uS_ne (fun z => h (tm_inj k hk l hl z.2)), uN_ne h]; exact a9 l hl
  · rw [uS_ne (fun z => tm_pm k hk l hl z.2)]; exact a10 l hl
theorem MX.setF {j : Nat} {v : Int32} (H : MX S V C R F J T P) : MX S (sV V 108 j v) C R (F.set j v) J T P := by
  obtain ⟨a1, a2, a3, ⟨a4, a5, a6, a7, a8⟩, a9, a10, a11⟩ := H
  refine ⟨fun i hi l hl => ?_, fun i hi => ?_, by rw [sV_self, a3], ⟨?_, ?_, ?_, a7, a8⟩, a9, a10, fun p hp => ?_⟩
  · rw [sV_ne (by omega)]; exact a1 i hi l hl
  · rw [sV_ne (by decide), sV_ne (by decide)]; exact a2 i hi
  · rw [sV_ne (by decide)]; exact a4
  · rw [sV_ne (by decide)]; exact a5
  · rw [sV_ne (by decide)]; exact a6
  · rw [sV_len]; exact a11 p hp
theorem MX.addR {i : Nat} {v : Int32} (H : MX S V C R F J T P) (hi : i < 12) (hl : ∀ i, i < 12 → (R i).length ≤ 24) (h24 : (R i).length < 24) : MX S (sV (sV V 106 (24 * i + (R i).length) v) 107 i (nI ((R i).length + 1))) C (uV R i (R i ++ [v])) F J T P := by
  have l6 : (V 106).length = 288 := H.len (by decide)
  have l7 : (V 107).length = 12 := H.len (by decide)
  obtain ⟨a1, a2, a3, ⟨a4, a5, a6, a7, a8⟩, a9, a10, a11⟩ := H
  refine ⟨fun j hj l hl => ?_, fun q hq => ?_, ?_, ⟨?_, ?_, ?_, a7, a8⟩, a9, a10, fun p hp => ?_⟩
  · rw [sV_ne (by omega), sV_ne (by omega)]; exact a1 j hj l hl
  · rw [sV_self, sV_ne (a' := 107) (a := 106) (by decide), sV_ne (a' := 106) (a := 107) (by decide), sV_self]
    by_cases h : q = i
    · subst h
      rw [uV_self, List.getElem?_set_self (by rw [l7]; exact hq)]
      refine ⟨by simp, fun k hk => ?_⟩
      by_cases hk2 : k = (R q).length
      · subst hk2
        rw [List.getElem?_set_self (by rw [l6]; omega)]; simp
      · have hk3 : k < (R q).length := by simp at hk; omega
        rw [List.getElem?_set_ne (by omega), List.getElem?_append_left hk3]; exact (a2 q hq).2 k hk3
    · rw [uV_ne h, List.getElem?_set_ne (Ne.symm h)]
      refine ⟨(a2 q hq).1, fun k hk => ?_⟩
      have := hl q hq
      rw [List.getElem?_set_ne (by omega)]
      exact (a2 q hq).2 k hk
  · rw [sV_ne (by decide), sV_ne (by decide)]; exact a3
  · rw [sV_ne (by decide), sV_ne (by decide)]; exact a4
  · rw [sV_ne (by decide), sV_ne (by decide)]; exact a5
  · rw [sV_ne (by decide), sV_ne (by decide)]; exact a6
  · rw [sV_len, sV_len]; exact a11 p hp
theorem MX.clrR {i : Nat} (H : MX S V C R F J T P) (hi : i < 12) : MX S (sV V 107 i 0) C (uV R i []) F J T P := by
  have l7 : (V 107).length = 12 := H.len (by decide)
  obtain ⟨a1, a2, a3, ⟨a4, a5, a6, a7, a8⟩, a9, a10, a11⟩ := H
  refine ⟨fun j hj l hl => ?_, fun q hq => ?_, ?_, ⟨?_, ?_, ?_, a7, a8⟩, a9, a10, fun p hp => ?_⟩
  · rw [sV_ne (by omega)]; exact a1 j hj l hl
  · rw [sV_self, sV_ne (a' := 106) (a := 107) (by decide)]
    by_cases h : q = i
    · subst h
      rw [uV_self, List.getElem?_set_self (by rw [l7]; exact hq)]
      exact ⟨rfl, fun k hk => by simp at hk⟩
    · rw [uV_ne h, List.getElem?_set_ne (Ne.symm h)]
      exact a2 q hq
  · rw [sV_ne (by decide)]; exact a3
  · rw [sV_ne (by decide)]; exact a4
  · rw [sV_ne (by decide)]; exact a5
  · rw [sV_ne (by decide)]; exact a6
  · rw [sV_len]; exact a11 p hp
end CXU
