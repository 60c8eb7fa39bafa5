/-! bits of addresses (nx_and, nx_xor begin from kit/laws/BITS.to-paste) -/
theorem nx_and (a b : Nat) : nI a &&& nI b = nI (a &&& b) := by
  apply Int32.toBitVec_inj.1
  show BitVec.ofNat 32 a &&& BitVec.ofNat 32 b = BitVec.ofNat 32 (a &&& b)
  apply BitVec.eq_of_getLsbD_eq
  intro i hi
  simp [hi]
theorem nx_xor (a b : Nat) : nI a ^^^ nI b = nI (a ^^^ b) := by
  apply Int32.toBitVec_inj.1
  show BitVec.ofNat 32 a ^^^ BitVec.ofNat 32 b = BitVec.ofNat 32 (a ^^^ b)
  apply BitVec.eq_of_getLsbD_eq
  intro i hi
  simp [hi]
theorem nx_or (a b : Nat) : nI a ||| nI b = nI (a ||| b) := by
  apply Int32.toBitVec_inj.1
  show BitVec.ofNat 32 a ||| BitVec.ofNat 32 b = BitVec.ofNat 32 (a ||| b)
  apply BitVec.eq_of_getLsbD_eq
  intro i hi
  simp [hi]
theorem sh_u : ∀ k, k < 32 → (((nI k).toUInt32 &&& Int32.toUInt32 31).toBitVec % 32).toNat = k := by decide +kernel
theorem sh_s : ∀ k, k < 32 → ((nI k &&& 31).toBitVec.smod 32).toNat = k := by decide +kernel
theorem ush_N {n k : Nat} (hn : n < 2 ^ 32) (hk : k < 32) : am_ush (nI n) (nI k) = nI (n / 2 ^ k) := pk_ushrN hn (nI k) k (sh_u k hk)
theorem shr_N {n k : Nat} (hn : n < 2 ^ 31) (hk : k < 32) : nI n >>> (nI k &&& 31) = nI (n / 2 ^ k) := pk_shrN hn _ k (sh_s k hk)
theorem shl_N {n k : Nat} (hn : n * 2 ^ k < 2 ^ 32) (hk : k < 32) : nI n <<< (nI k &&& 31) = nI (n * 2 ^ k) := pk_shlN _ k (sh_s k hk) hn
theorem sub8 {n : Nat} (h : n ≤ 8) : (8 : Int32) - nI n = nI (8 - n) := pk_sub (a := 8) h
theorem xor_lt {a b : Nat} (ha : a < 256) (hb : b < 256) : a ^^^ b < 256 := Nat.xor_lt_two_pow (n := 8) ha hb
theorem or_lt {a b : Nat} (ha : a < 256) (hb : b < 256) : a ||| b < 256 := Nat.or_lt_two_pow (n := 8) ha hb
theorem xor_div (a b k : Nat) : (a ^^^ b) / 2 ^ k = 0 ↔ a / 2 ^ k = b / 2 ^ k := by
  rw [← Nat.shiftRight_eq_div_pow, ← Nat.shiftRight_eq_div_pow, ← Nat.shiftRight_eq_div_pow, Nat.shiftRight_xor_distrib]
  constructor
  · intro h
    have : a >>> k ^^^ b >>> k ^^^ b >>> k = 0 ^^^ b >>> k := by rw [h]
    rw [Nat.xor_assoc, Nat.xor_self, Nat.xor_zero, Nat.zero_xor] at this
    exact this
  · intro h; rw [h, Nat.xor_self]
theorem or_div (a b k : Nat) : (a ||| b) / 2 ^ k = 0 ↔ a / 2 ^ k = 0 ∧ b / 2 ^ k = 0 := by
  rw [← Nat.shiftRight_eq_div_pow, ← Nat.shiftRight_eq_div_pow, ← Nat.shiftRight_eq_div_pow, Nat.shiftRight_or_distrib, Nat.or_eq_zero_iff]
/-- leading zeros of eight bits -/
def lz8 (x : Nat) : Nat := if 128 ≤ x then 0 else if 64 ≤ x then 1 else if 32 ≤ x then 2 else if 16 ≤ x then 3 else if 8 ≤ x then 4 else if 4 ≤ x then 5 else if 2 ≤ x then 6 else if 1 ≤ x then 7 else 8
theorem lz8_iff : ∀ x, x < 256 → ∀ c, c < 9 → (x / 2 ^ (8 - c) = 0 ↔ c ≤ lz8 x) := by decide +kernel
theorem lz8_le : ∀ x, x < 256 → lz8 x ≤ 8 := by decide +kernel
theorem lz8_0 : ∀ x, x < 256 → (lz8 x = 8 ↔ x = 0) := by decide +kernel
theorem lz8_or {x y : Nat} (hx : x < 256) (hy : y < 256) : lz8 (x ||| y) = min (lz8 x) (lz8 y) := by
  have k1 := fun c hc => lz8_iff (x ||| y) (or_lt hx hy) c hc
  have k2 := fun c hc => lz8_iff x hx c hc
  have k3 := fun c hc => lz8_iff y hy c hc
  have l1 := lz8_le (x ||| y) (or_lt hx hy)
  have l2 := lz8_le x hx
  have l3 := lz8_le y hy
  have a1 := (k1 (lz8 (x ||| y)) (by omega)).mpr (Nat.le_refl _)
  rw [or_div] at a1
  have b1 := (k2 _ (by omega)).mp a1.1
  have b2 := (k3 _ (by omega)).mp a1.2
  have a2 := (k2 (min (lz8 x) (lz8 y)) (by omega)).mpr (Nat.min_le_left _ _)
  have a3 := (k3 (min (lz8 x) (lz8 y)) (by omega)).mpr (Nat.min_le_right _ _)
  have a4 := (k1 (min (lz8 x) (lz8 y)) (by omega)).mp ((or_div _ _ _).mpr ⟨a2, a3⟩)
  omega
/-- who answers, by numbers: q is the prefix of n bits -/
def gN (rd : Nat → Int32) (A : Nat → Nat) (q n : Nat) : Nat → Nat → Option Nat → Nat → Option Nat × Nat
  | 0, _, w, D => (w, D)
  | m + 1, c, w, D => if ¬ rd c = 0 ∧ A c / 2 ^ (8 - n) = q then gN rd A q n m (c + 1) (some (w.getD c)) (D ||| (A c ^^^ A (w.getD c))) else gN rd A q n m (c + 1) w D
theorem gN_s (rd : Nat → Int32) (A : Nat → Nat) (q n m c : Nat) (w : Option Nat) (D : Nat) : gN rd A q n (m + 1) c w D = if ¬ rd c = 0 ∧ A c / 2 ^ (8 - n) = q then gN rd A q n m (c + 1) (some (w.getD c)) (D ||| (A c ^^^ A (w.getD c))) else gN rd A q n m (c + 1) w D := rfl
/-- ready cards have addresses of eight bits -/
def RA (rd ad : Nat → Int32) (A : Nat → Nat) : Prop := ∀ j, j < 4 → ¬ rd j = 0 → A j < 256 ∧ ad j = nI (A j)
/-- what is known of who answers -/
def gI (rd : Nat → Int32) (A : Nat → Nat) (q n : Nat) (w : Option Nat) (D : Nat) : Prop := D < 256 ∧ D / 2 ^ (8 - n) = 0 ∧ (w = none → D = 0) ∧ ∀ j, w = some j → j < 4 ∧ ¬ rd j = 0 ∧ A j / 2 ^ (8 - n) = q
theorem gI_step {rd ad : Nat → Int32} {A : Nat → Nat} {q n c D : Nat} {w : Option Nat} (R : RA rd ad A) (hc : c < 4) (h : ¬ rd c = 0 ∧ A c / 2 ^ (8 - n) = q) (I : gI rd A q n w D) : gI rd A q n (some (w.getD c)) (D ||| (A c ^^^ A (w.getD c))) ∧ A (w.getD c) < 256 ∧ ad (w.getD c) = nI (A (w.getD c)) := by
  obtain ⟨i1, i2, i3, i4⟩ := I
  have hw : w.getD c < 4 ∧ ¬ rd (w.getD c) = 0 ∧ A (w.getD c) / 2 ^ (8 - n) = q := by
    cases w with
    | none => exact ⟨hc, h⟩
    | some j => exact i4 j rfl
  have a1 := R c hc h.1
  have a2 := R (w.getD c) hw.1 hw.2.1
  refine ⟨⟨or_lt i1 (xor_lt a1.1 a2.1), (or_div _ _ _).mpr ⟨i2, (xor_div _ _ _).mpr (h.2.trans hw.2.2.symm)⟩, ?_, ?_⟩, a2⟩
  · intro z; cases z
  · intro j hj; cases hj; exact hw
theorem gth_gN {rd ad : Nat → Int32} {A : Nat → Nat} {p q n : Nat} (R : RA rd ad A) (hp : p < 256) (hn : n ≤ 8) (hq : p / 2 ^ (8 - n) = q) : ∀ (m c : Nat) (w : Option Nat) (D : Nat), c + m = 4 → gI rd A q n w D → gth rd ad (nI p) (nI n) m c w (nI D) = ((gN rd A q n m c w D).1, nI (gN rd A q n m c w D).2) ∧ gI rd A q n (gN rd A q n m c w D).1 (gN rd A q n m c w D).2 := by
  intro m
  induction m with
  | zero => intro c w D hc I; exact ⟨rfl, I⟩
  | succ m ih =>
    intro c w D hc I
    rw [gth_s, gN_s]
    by_cases h1 : rd c = 0
    · rw [if_neg (fun z => z.1 h1), if_neg (fun z => z.1 h1)]
      exact ih (c + 1) w D (by omega) I
    · obtain ⟨hA, hAd⟩ := R c (by omega) h1
      have e : am_ush (ad c ^^^ nI p) (8 - nI n) = 0 ↔ A c / 2 ^ (8 - n) = q := by
        have hx := xor_lt hA hp
        rw [hAd, nx_xor, sub8 hn, ush_N (by omega) (by omega), ← nI_0, nI_eq (Nat.lt_of_le_of_lt (Nat.div_le_self _ _) (by omega)) (by decide), xor_div, hq]
      by_cases h2 : A c / 2 ^ (8 - n) = q
      · obtain ⟨I', hw1, hw2⟩ := gI_step R (by omega) ⟨h1, h2⟩ I
        rw [if_pos ⟨h1, e.mpr h2⟩, if_pos ⟨h1, h2⟩, hAd, hw2, nx_xor, nx_or]
        exact ih (c + 1) _ _ (by omega) I'
      · rw [if_neg (fun z => h2 (e.mp z.2)), if_neg (fun z => h2 z.2)]
        exact ih (c + 1) w D (by omega) I
theorem gI_0 (rd : Nat → Int32) (A : Nat → Nat) (q n : Nat) : gI rd A q n none 0 := ⟨by decide, by simp, fun _ => rfl, fun j hj => by cases hj⟩
