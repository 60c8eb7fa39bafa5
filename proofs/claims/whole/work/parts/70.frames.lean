/-! what a method leaves alone -/
def Fm (P : Nat → Nat → Prop) (Q : Nat → Prop) (S : st_S) (V : st_V) (S' : st_S) (V' : st_V) : Prop := (∀ a k, ¬ P a k → S' a k = S a k) ∧ (∀ a, ¬ Q a → V' a = V a) ∧ ∀ a, (V' a).length = (V a).length
section FMS
variable {P P' : Nat → Nat → Prop} {Q Q' : Nat → Prop} {S S1 S2 : st_S} {V V1 V2 : st_V}
theorem Fm.refl (S : st_S) (V : st_V) : Fm P Q S V S V := ⟨fun _ _ _ => rfl, fun _ _ => rfl, fun _ => rfl⟩
theorem Fm.trans (h1 : Fm P Q S V S1 V1) (h2 : Fm P Q S1 V1 S2 V2) : Fm P Q S V S2 V2 :=
  ⟨fun a k h => (h2.1 a k h).trans (h1.1 a k h), fun a h => (h2.2.1 a h).trans (h1.2.1 a h), fun a => (h2.2.2 a).trans (h1.2.2 a)⟩
theorem Fm.mono (h : Fm P Q S V S1 V1) (h1 : ∀ a k, P a k → P' a k) (h2 : ∀ a, Q a → Q' a) : Fm P' Q' S V S1 V1 :=
  ⟨fun a k hn => h.1 a k (fun z => hn (h1 a k z)), fun a hn => h.2.1 a (fun z => hn (h2 a z)), h.2.2⟩
theorem Fm.us {a k : Nat} {v : Int32} (h : Fm P Q S V S1 V1) (hp : P a k) : Fm P Q S V (uS S1 a k v) V1 :=
  ⟨fun b l hn => by rw [uS_ne (fun z => hn (by rw [z.1, z.2]; exact hp))]; exact h.1 b l hn, h.2.1, h.2.2⟩
theorem Fm.uv {a : Nat} {l : List Int32} (h : Fm P Q S V S1 V1) (hq : Q a) (hl : l.length = (V1 a).length) : Fm P Q S V S1 (uV V1 a l) := by
  refine ⟨h.1, fun b hn => ?_, fun b => ?_⟩
  · rw [uV_ne (fun z => hn (by rw [z]; exact hq))]; exact h.2.1 b hn
  · by_cases z : b = a
    · rw [z, uV_self, hl]; exact h.2.2 a
    · rw [uV_ne z]; exact h.2.2 b
theorem Fm.sv {a j : Nat} {v : Int32} (h : Fm P Q S V S1 V1) (hq : Q a) : Fm P Q S V S1 (sV V1 a j v) := by
  unfold sV; exact h.uv hq (List.length_set ..)
end FMS
theorem Rw.fm {P : Nat → Nat → Prop} {Q : Nat → Prop} {S S' : st_S} {V V' : st_V} {r : Nat} {xs jk : List Int32} (H : Rw S V r xs jk) (h : Fm P Q S V S' V') (h1 : ¬ P r 1) (h2 : ¬ Q (r + 1)) : Rw S' V' r xs jk := H.cong (h.1 _ _ h1) (h.2.1 _ h2)
/-- the class's private numbers and arrays -/
def prS (a k : Nat) : Prop := a = 1 ∨ a = 68 ∨ a = 69 ∨ (72 ≤ a ∧ a ≤ 87) ∨ a = 89 ∨ a = 91 ∨ (3 ≤ a ∧ a < 63 ∧ ((a - 3) % 15 = 0 ∧ 12 ≤ k ∨ 8 ≤ (a - 3) % 15))
def prV (a : Nat) : Prop := a = 70 ∨ (72 ≤ a ∧ a ≤ 87) ∨ a = 90 ∨ a = 92 ∨ (3 ≤ a ∧ a < 63 ∧ 8 ≤ (a - 3) % 15)
/-- the reference's -/
def pmS (a k : Nat) : Prop := a = 93 ∧ (k = 32 ∨ 39 ≤ k)
def pmV (a : Nat) : Prop := 112 ≤ a
section CXF
variable {S S' : st_S} {V V' : st_V} {C : st_S} {R : st_V} {F : List Int32} {J J' : st_J} {T P : Nat → Int32}
theorem CX.fm (H : CX S V C R F J T P) (h : Fm prS prV S V S' V') : CX S' V' C R F J T P := by
  obtain ⟨a1, a2, a3, ⟨a4, a5, a6, a7, a8⟩, a9, a10, a11⟩ := H
  obtain ⟨h1, h2, h3⟩ := h
  refine ⟨fun j hj k hk => ?_, fun j hj r hr => ?_, ?_, ⟨?_, ?_, ?_, ?_, ?_⟩, fun k hk => ?_, fun k hk => ?_, fun p hp => ?_⟩
  · rw [h1 _ _ (by unfold prS cb; omega)]; exact a1 j hj k hk
  · rw [h1 _ _ (by rcases r3 hr with rfl | rfl | rfl <;> (unfold prS rr cb; omega)), h2 _ (by rcases r3 hr with rfl | rfl | rfl <;> (unfold prV rr cb; omega))]; exact a2 j hj r hr
  · rw [h2 _ (by unfold prV; omega)]; exact a3
  · rw [h2 _ (by unfold prV; omega)]; exact a4
  · rw [h2 _ (by unfold prV; omega)]; exact a5
  · rw [h2 _ (by unfold prV; omega)]; exact a6
  · rw [h1 _ _ (by unfold prS; omega)]; exact a7
  · rw [h1 _ _ (by unfold prS; omega)]; exact a8
  · rw [h1 _ _ (by unfold prS; omega)]; exact a9 k hk
  · rw [h1 _ _ (by unfold prS; omega)]; exact a10 k hk
  · rw [h3]; exact a11 p hp
theorem MX.fm (H : MX S V C R F J T P) (h : Fm pmS pmV S V S' V') : MX S' V' C R F J T P := by
  obtain ⟨a1, a2, a3, ⟨a4, a5, a6, a7, a8⟩, a9, a10, a11⟩ := H
  obtain ⟨h1, h2, h3⟩ := h
  refine ⟨fun j hj k hk => ?_, fun i hi => ?_, ?_, ⟨?_, ?_, ?_, ?_, ?_⟩, fun k hk => ?_, fun k hk => ?_, fun p hp => ?_⟩
  · rw [h2 _ (by unfold pmV; omega)]; exact a1 j hj k hk
  · rw [h2 _ (by unfold pmV; omega), h2 _ (by unfold pmV; omega)]; exact a2 i hi
  · rw [h2 _ (by unfold pmV; omega)]; exact a3
  · rw [h2 _ (by unfold pmV; omega)]; exact a4
  · rw [h2 _ (by unfold pmV; omega)]; exact a5
  · rw [h2 _ (by unfold pmV; omega)]; exact a6
  · rw [h1 _ _ (by unfold pmS; omega)]; exact a7
  · rw [h1 _ _ (by unfold pmS; omega)]; exact a8
  · rw [h1 _ _ (fun z => (by decide : ∀ k, k < 6 → ¬ (tm k = 32 ∨ 39 ≤ tm k)) k hk z.2)]; exact a9 k hk
  · rw [h1 _ _ (fun z => (by decide : ∀ k, k < 8 → ¬ (pm k = 32 ∨ 39 ≤ pm k)) k hk z.2)]; exact a10 k hk
  · rw [h3]; exact a11 p hp
theorem CX.JX (H : CX S V C R F J T P) : JX S V J := H.2.2.2.1
theorem MX.JM {s : Nat} (H : MX S V C R F J T P) (h : S 93 32 = nI s) : JM S V J s := ⟨H.2.2.2.1.1, H.2.2.2.1.2.1, H.2.2.2.1.2.2.1, H.2.2.2.1.2.2.2.1, H.2.2.2.1.2.2.2.2, h⟩
theorem CX.setJ (H : CX S V C R F J T P) (L : JL J') : CX (jS S J') (jV V J') C R F J' T P := by
  have X := jx_set S V J'
  obtain ⟨a1, a2, a3, a4, a9, a10, a11⟩ := H
  refine ⟨fun j hj k hk => ?_, fun j hj r hr => ?_, ?_, X, fun k hk => ?_, fun k hk => ?_, fun p hp => ?_⟩
  · rw [jS_ne (cb_ne hj (by decide))]; exact a1 j hj k hk
  · rw [jS_ne (rr_ne hj hr (by decide)), jV_ne (by unfold rr cb; omega)]; exact a2 j hj r hr
  · rw [jV_ne (by decide)]; exact a3
  · rw [jS_ne (by decide)]; exact a9 k hk
  · rw [jS_ne (by decide)]; exact a10 k hk
  · by_cases h : p.1 = 65 ∨ p.1 = 66 ∨ p.1 = 67
    · have q := (by decide : ∀ p ∈ lenX, (p.1 = 65 ∨ p.1 = 66 ∨ p.1 = 67) → p.2 = 128) p hp h
      rw [q]
      rcases h with h | h | h <;> rw [h]
      · rw [X.1]; exact L.1
      · rw [X.2.1]; exact L.2.1
      · rw [X.2.2.1]; exact L.2.2.1
    · rw [jV_ne h]; exact a11 p hp
theorem MX.setJ {s : Nat} (H : MX S V C R F J T P) (L : JL J') : MX (mS S J' s) (mV V J') C R F J' T P := by
  have X := jm_set S V J' s
  obtain ⟨a1, a2, a3, a4, a9, a10, a11⟩ := H
  refine ⟨fun j hj k hk => ?_, fun i hi => ?_, ?_, ⟨X.1, X.2.1, X.2.2.1, X.2.2.2.1, X.2.2.2.2.1⟩, fun k hk => ?_, fun k hk => ?_, fun p hp => ?_⟩
  · rw [mV_ne (by omega)]; exact a1 j hj k hk
  · rw [mV_ne (by omega), mV_ne (by omega)]; exact a2 i hi
  · rw [mV_ne (by decide)]; exact a3
  · rw [mS_ne (fun z => (by decide : ∀ k, k < 6 → ¬ (tm k = 30 ∨ tm k = 31 ∨ tm k = 32)) k hk z.2)]; exact a9 k hk
  · rw [mS_ne (fun z => (by decide : ∀ k, k < 8 → ¬ (pm k = 30 ∨ pm k = 31 ∨ pm k = 32)) k hk z.2)]; exact a10 k hk
  · by_cases h : p.1 = 109 ∨ p.1 = 110 ∨ p.1 = 111
    · have q := (by decide : ∀ p ∈ lenM, (p.1 = 109 ∨ p.1 = 110 ∨ p.1 = 111) → p.2 = 128) p hp h
      rw [q]
      rcases h with h | h | h <;> rw [h]
      · rw [X.1]; exact L.1
      · rw [X.2.1]; exact L.2.1
      · rw [X.2.2.1]; exact L.2.2.1
    · rw [mV_ne h]; exact a11 p hp
theorem CX.setP {k : Nat} {v : Int32} (H : CX S V C R F J T P) : CX (uS S 88 k v) V C R F J T (uN P k v) := by
  obtain ⟨a1, a2, a3, ⟨a4, a5, a6, a7, a8⟩, a9, a10, a11⟩ := H
  refine ⟨fun i hi l hl => ?_, fun i hi r hr => ?_, a3, ⟨a4, a5, a6, ?_, ?_⟩, fun l hl => ?_, fun l hl => ?_, a11⟩
  · rw [uS_ne (fun z => cb_ne hi (by decide) z.1)]; exact a1 i hi l hl
  · rw [uS_ne (fun z => rr_ne hi hr (by decide) z.1)]; exact a2 i hi r hr
  · rw [uS_ne (fun z => by have := z.1; omega)]; exact a7
  · rw [uS_ne (fun z => by have := z.1; omega)]; exact a8
  · rw [uS_ne (fun z => by have := z.1; omega)]; exact a9 l hl
  · by_cases h : l = k
    · rw [h, uS_self, uN_self]
    · rw [uS_ne (fun z => h z.2), uN_ne h]; exact a10 l hl
theorem pm_inj : ∀ k, k < 8 → ∀ l, l < 8 → pm l = pm k → l = k := by decide
theorem MX.setP {k : Nat} {v : Int32} (H : MX S V C R F J T P) (hk : k < 8) : MX (uS S 93 (pm k) v) V C R F J T (uN P k v) := by
  obtain ⟨a1, a2, a3, ⟨a4, a5, a6, a7, a8⟩, a9, a10, a11⟩ := H
  refine ⟨a1, a2, a3, ⟨a4, a5, a6, ?_, ?_⟩, fun l hl => ?_, fun l hl => ?_, a11⟩
  · rw [uS_ne (fun z => (by decide : ∀ k, k < 8 → ¬ 30 = pm k) k hk z.2)]; exact a7
  · rw [uS_ne (fun z => (by decide : ∀ k, k < 8 → ¬ 31 = pm k) k hk z.2)]; exact a8
  · rw [uS_ne (fun z => tm_pm l hl k hk z.2.symm)]; exact a9 l hl
  · by_cases h : l = k
    · rw [h, uS_self, uN_self]
    · rw [uS_ne (fun z => h (pm_inj k hk l hl z.2)), uN_ne h]; exact a10 l hl
end CXF
theorem Fm.jSV {P : Nat → Nat → Prop} {Q : Nat → Prop} {S S1 : st_S} {V V1 : st_V} {J : st_J} (h : Fm P Q S V S1 V1) (L : JL J) (L1 : (V1 65).length = 128) (L2 : (V1 66).length = 128) (L3 : (V1 67).length = 128) (p1 : P 63 4) (p2 : P 63 5) (q1 : Q 65) (q2 : Q 66) (q3 : Q 67) : Fm P Q S V (jS S1 J) (jV V1 J) := by
  unfold jS jV
  refine ((((h.us p1).us p2).uv q1 ?_).uv q2 ?_).uv q3 ?_
  · rw [L1]; exact L.1
  · rw [uV_ne (by decide), L2]; exact L.2.1
  · rw [uV_ne (by decide), uV_ne (by decide), L3]; exact L.2.2.1
theorem Fm.mSV {P : Nat → Nat → Prop} {Q : Nat → Prop} {S S1 : st_S} {V V1 : st_V} {J : st_J} {s : Nat} (h : Fm P Q S V S1 V1) (L : JL J) (L1 : (V1 109).length = 128) (L2 : (V1 110).length = 128) (L3 : (V1 111).length = 128) (p1 : P 93 30) (p2 : P 93 31) (p3 : P 93 32) (q1 : Q 109) (q2 : Q 110) (q3 : Q 111) : Fm P Q S V (mS S1 J s) (mV V1 J) := by
  unfold mS mV
  refine (((((h.us p1).us p2).us p3).uv q1 ?_).uv q2 ?_).uv q3 ?_
  · rw [L1]; exact L.1
  · rw [uV_ne (by decide), L2]; exact L.2.1
  · rw [uV_ne (by decide), uV_ne (by decide), L3]; exact L.2.2.1
/-- a row that is emptied -/
theorem rw_clr {S : st_S} {V : st_V} {r : Nat} (H : isRow r) (h : (V (r + 1)).length ≤ 1000) : Rw (uS S r 1 0) V r [] (V (r + 1)) := ⟨H, by rw [uS_self]; rfl, rfl, by simpa using h⟩
