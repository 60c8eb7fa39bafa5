/-! a command and its answer, in blocks: what both sides do. Phases: 0 the block that is sent is not heard, 1 it is heard and more follow, 2 the answer's part is said, 3 that part has come -/
def tkp (L z ph kd o fr : Nat) : Nat × Nat := if ph = 0 then (if kd = 7 then (0, fr) else if o + z < L then (1, fr) else (2, 0)) else if ph = 3 then (2, fr + z) else (ph, fr)
def tkq (F : List Int32) (J : st_J) (L z ph kd o fr : Nat) : Nat × Nat := if flt F (jn J) = 1 then (ph, fr) else tkp L z ph kd o fr
def tk (F : List Int32) (L z n : Nat) : Nat → st_J → Nat → Nat → Nat → Nat → Nat → Nat → Bool × st_J × Nat × Nat
  | 0, J, _, t, ph, _, _, _ => (false, J, t, ph)
  | m + 1, J, s, t, ph, kd, o, fr =>
    if 3 ≤ s then (false, J, t, ph)
    else if flt F (jn J) = 0 then
      if (tkp L z ph kd o fr).1 = 0 then tk F L z n m (nt J (nI kd) (nI t) 1) 0 t 0 5 o (tkp L z ph kd o fr).2
      else if (tkp L z ph kd o fr).1 = 1 then tk F L z n m (nt J (nI kd) (nI t) 1) 0 (1 - t) 0 5 (o + z) (tkp L z ph kd o fr).2
      else if (tkp L z ph kd o fr).2 + z < n then tk F L z n m (nt J (nI kd) (nI t) 1) 0 (1 - t) 3 6 o (tkp L z ph kd o fr).2
      else (true, nt J (nI kd) (nI t) 1, 1 - t, 2)
    else tk F L z n m (nt J (nI kd) (nI t) 0) (s + 1) t (tkq F J L z ph kd o fr).1 (if kd = 6 then 6 else 7) o (tkq F J L z ph kd o fr).2
theorem tk_s (F : List Int32) (L z n m : Nat) (J : st_J) (s t ph kd o fr : Nat) : tk F L z n (m + 1) J s t ph kd o fr = if 3 ≤ s then (false, J, t, ph)
    else if flt F (jn J) = 0 then
      if (tkp L z ph kd o fr).1 = 0 then tk F L z n m (nt J (nI kd) (nI t) 1) 0 t 0 5 o (tkp L z ph kd o fr).2
      else if (tkp L z ph kd o fr).1 = 1 then tk F L z n m (nt J (nI kd) (nI t) 1) 0 (1 - t) 0 5 (o + z) (tkp L z ph kd o fr).2
      else if (tkp L z ph kd o fr).2 + z < n then tk F L z n m (nt J (nI kd) (nI t) 1) 0 (1 - t) 3 6 o (tkp L z ph kd o fr).2
      else (true, nt J (nI kd) (nI t) 1, 1 - t, 2)
    else tk F L z n m (nt J (nI kd) (nI t) 0) (s + 1) t (tkq F J L z ph kd o fr).1 (if kd = 6 then 6 else 7) o (tkq F J L z ph kd o fr).2 := rfl
def twf (L z n t ph kd o fr : Nat) : Prop := t ≤ 1 ∧ (ph = 0 ∧ (kd = 5 ∨ kd = 7) ∧ o < L ∨ ph = 1 ∧ kd = 7 ∧ o + z < L ∨ ph = 2 ∧ (kd = 6 ∨ kd = 7) ∧ fr ≤ n ∨ ph = 3 ∧ kd = 6 ∧ fr + z < n)
def tmu (J : st_J) (L n ph kd o fr : Nat) : Nat := 2 * (128 - jn J) + (if ph = 0 then 2 * (L - o) + 2 * n + 4 + (if kd = 7 then 1 else 0) else if ph = 1 then 2 * (L - o) + 2 * n + 3 else if ph = 2 then 2 * (n - fr) + 2 else 2 * (n - fr) + 1)
theorem flt_0 {F : List Int32} {n : Nat} (h : ¬ flt F n = 0) : n < 128 := by
  unfold flt at h
  by_cases c : n < 128
  · exact c
  · rw [if_neg c] at h; exact absurd rfl h
section TKW
variable {F : List Int32} {J : st_J} {L z n t ph kd o fr : Nat}
/-- without an answer -/
theorem tk_no (W : twf L z n t ph kd o fr) (hz : 3 ≤ z) (f0 : ¬ flt F (jn J) = 0) : twf L z n t (tkq F J L z ph kd o fr).1 (if kd = 6 then 6 else 7) o (tkq F J L z ph kd o fr).2 ∧ tmu (nt J (nI kd) (nI t) 0) L n (tkq F J L z ph kd o fr).1 (if kd = 6 then 6 else 7) o (tkq F J L z ph kd o fr).2 < tmu J L n ph kd o fr := by
  have hJ := flt_0 f0
  unfold tmu
  rw [nt_n]
  obtain ⟨ht, W⟩ := W
  rcases W with ⟨rfl, hk, ho⟩ | ⟨rfl, rfl, ho⟩ | ⟨rfl, hk, ho⟩ | ⟨rfl, rfl, ho⟩
  · rcases hk with rfl | rfl
    · by_cases f1 : flt F (jn J) = 1
      · simp only [tkq, if_pos f1, twf]; constructor <;> simp <;> omega
      · by_cases hm : o + z < L
        · simp only [tkq, if_neg f1, tkp, if_pos hm, twf]; constructor <;> simp <;> omega
        · simp only [tkq, if_neg f1, tkp, if_neg hm, twf]; constructor <;> simp <;> omega
    · by_cases f1 : flt F (jn J) = 1
      · simp only [tkq, if_pos f1, twf]; constructor <;> simp <;> omega
      · simp only [tkq, if_neg f1, tkp, twf]; constructor <;> simp <;> omega
  · have e : tkq F J L z 1 7 o fr = (1, fr) := by unfold tkq tkp; split <;> rfl
    simp only [e, twf]; constructor <;> simp <;> omega
  · have e : tkq F J L z 2 kd o fr = (2, fr) := by unfold tkq tkp; split <;> rfl
    simp only [e, twf]
    constructor
    · rcases hk with rfl | rfl <;> simp <;> omega
    · simp; omega
  · by_cases f1 : flt F (jn J) = 1
    · simp only [tkq, if_pos f1, twf]; constructor <;> simp <;> omega
    · simp only [tkq, if_neg f1, tkp, twf]; constructor <;> simp <;> omega
/-- with an answer -/
theorem tk_q (W : twf L z n t ph kd o fr) : (ph = 0 ∧ kd = 7 ∧ o < L ∧ tkp L z ph kd o fr = (0, fr)) ∨ (ph = 0 ∧ kd = 5 ∧ o + z < L ∧ tkp L z ph kd o fr = (1, fr)) ∨ (ph = 0 ∧ kd = 5 ∧ o < L ∧ ¬ o + z < L ∧ tkp L z ph kd o fr = (2, 0)) ∨ (ph = 1 ∧ kd = 7 ∧ o + z < L ∧ tkp L z ph kd o fr = (1, fr)) ∨ (ph = 2 ∧ (kd = 6 ∨ kd = 7) ∧ fr ≤ n ∧ tkp L z ph kd o fr = (2, fr)) ∨ (ph = 3 ∧ kd = 6 ∧ fr + z < n ∧ tkp L z ph kd o fr = (2, fr + z)) := by
  obtain ⟨ht, W⟩ := W
  rcases W with ⟨rfl, hk, ho⟩ | ⟨rfl, rfl, ho⟩ | ⟨rfl, hk, ho⟩ | ⟨rfl, rfl, ho⟩
  · rcases hk with rfl | rfl
    · by_cases hm : o + z < L
      · exact Or.inr (Or.inl ⟨rfl, rfl, hm, by unfold tkp; simp [hm]⟩)
      · exact Or.inr (Or.inr (Or.inl ⟨rfl, rfl, ho, hm, by unfold tkp; simp [hm]⟩))
    · exact Or.inl ⟨rfl, rfl, ho, rfl⟩
  · exact Or.inr (Or.inr (Or.inr (Or.inl ⟨rfl, rfl, ho, rfl⟩)))
  · exact Or.inr (Or.inr (Or.inr (Or.inr (Or.inl ⟨rfl, hk, ho, rfl⟩))))
  · exact Or.inr (Or.inr (Or.inr (Or.inr (Or.inr ⟨rfl, rfl, ho, rfl⟩))))
theorem tk_y0 (W : twf L z n t ph kd o fr) (h : (tkp L z ph kd o fr).1 = 0) : twf L z n t 0 5 o (tkp L z ph kd o fr).2 ∧ tmu (nt J (nI kd) (nI t) 1) L n 0 5 o (tkp L z ph kd o fr).2 < tmu J L n ph kd o fr := by
  have ht := W.1
  rcases tk_q W with ⟨rfl, rfl, a, e⟩ | ⟨rfl, rfl, a, e⟩ | ⟨rfl, rfl, a, b, e⟩ | ⟨rfl, rfl, a, e⟩ | ⟨rfl, hk, a, e⟩ | ⟨rfl, rfl, a, e⟩ <;> rw [e] at h ⊢ <;> try (exfalso; simp at h; done)
  unfold tmu twf
  rw [nt_n]
  simp
  omega
theorem tk_y1 (W : twf L z n t ph kd o fr) (hz : 3 ≤ z) (h : (tkp L z ph kd o fr).1 = 1) : twf L z n (1 - t) 0 5 (o + z) (tkp L z ph kd o fr).2 ∧ tmu (nt J (nI kd) (nI t) 1) L n 0 5 (o + z) (tkp L z ph kd o fr).2 < tmu J L n ph kd o fr := by
  have ht := W.1
  rcases tk_q W with ⟨rfl, rfl, a, e⟩ | ⟨rfl, rfl, a, e⟩ | ⟨rfl, rfl, a, b, e⟩ | ⟨rfl, rfl, a, e⟩ | ⟨rfl, hk, a, e⟩ | ⟨rfl, rfl, a, e⟩ <;> rw [e] at h ⊢ <;> try (exfalso; simp at h; done)
  · unfold tmu twf
    rw [nt_n]
    simp
    omega
  · unfold tmu twf
    rw [nt_n]
    simp
    omega
theorem tk_y2 (W : twf L z n t ph kd o fr) (hz : 3 ≤ z) (h0 : ¬ (tkp L z ph kd o fr).1 = 0) (h1 : ¬ (tkp L z ph kd o fr).1 = 1) (h : (tkp L z ph kd o fr).2 + z < n) : twf L z n (1 - t) 3 6 o (tkp L z ph kd o fr).2 ∧ tmu (nt J (nI kd) (nI t) 1) L n 3 6 o (tkp L z ph kd o fr).2 < tmu J L n ph kd o fr := by
  have ht := W.1
  rcases tk_q W with ⟨rfl, rfl, a, e⟩ | ⟨rfl, rfl, a, e⟩ | ⟨rfl, rfl, a, b, e⟩ | ⟨rfl, rfl, a, e⟩ | ⟨rfl, hk, a, e⟩ | ⟨rfl, rfl, a, e⟩ <;> rw [e] at h h0 h1 ⊢ <;> try first | exact absurd rfl h0 | exact absurd rfl h1
  · unfold tmu twf
    rw [nt_n]
    simp at h ⊢
    omega
  · unfold tmu twf
    rw [nt_n]
    simp at h ⊢
    omega
  · unfold tmu twf
    rw [nt_n]
    simp at h ⊢
    omega
theorem tmu_pos (W : twf L z n t ph kd o fr) (hz : 3 ≤ z) : 0 < tmu J L n ph kd o fr := by
  obtain ⟨ht, W⟩ := W
  unfold tmu
  rcases W with ⟨rfl, hk, ho⟩ | ⟨rfl, rfl, ho⟩ | ⟨rfl, hk, ho⟩ | ⟨rfl, rfl, ho⟩
  · rcases hk with rfl | rfl <;> simp <;> omega
  · simp; omega
  · simp; omega
  · simp; omega
/-- exchanges, and what is known at the end -/
theorem tk_L (hz : 3 ≤ z) : ∀ (m : Nat) (J : st_J) (s t ph kd o fr : Nat), twf L z n t ph kd o fr → JL J → jn J + m ≤ 2000000 → JL (tk F L z n m J s t ph kd o fr).2.1 ∧ jn (tk F L z n m J s t ph kd o fr).2.1 ≤ jn J + m ∧ (tk F L z n m J s t ph kd o fr).2.2.1 ≤ 1 ∧ ((tk F L z n m J s t ph kd o fr).1 = true → (tk F L z n m J s t ph kd o fr).2.2.2 = 2) := by
  intro m
  induction m with
  | zero => intro J s t ph kd o fr W LJ hJ; exact ⟨LJ, Nat.le_refl _, W.1, fun z => by cases z⟩
  | succ m ih =>
    intro J s t ph kd o fr W LJ hJ
    rw [tk_s]
    by_cases hs3 : 3 ≤ s
    · rw [if_pos hs3]; exact ⟨LJ, by show jn J ≤ _; omega, W.1, fun z => by cases z⟩
    · rw [if_neg hs3]
      by_cases f0 : flt F (jn J) = 0
      · rw [if_pos f0]
        have LL : JL (nt J (nI kd) (nI t) 1) := nt_L LJ (by omega)
        by_cases q0 : (tkp L z ph kd o fr).1 = 0
        · rw [if_pos q0]
          obtain ⟨a, b, c⟩ := ih (nt J (nI kd) (nI t) 1) 0 t 0 5 o (tkp L z ph kd o fr).2 (tk_y0 (J := J) W q0).1 LL (by rw [nt_n]; omega)
          rw [nt_n] at b
          exact ⟨a, by omega, c⟩
        · rw [if_neg q0]
          by_cases q1 : (tkp L z ph kd o fr).1 = 1
          · rw [if_pos q1]
            obtain ⟨a, b, c⟩ := ih (nt J (nI kd) (nI t) 1) 0 (1 - t) 0 5 (o + z) (tkp L z ph kd o fr).2 (tk_y1 (J := J) W hz q1).1 LL (by rw [nt_n]; omega)
            rw [nt_n] at b
            exact ⟨a, by omega, c⟩
          · rw [if_neg q1]
            by_cases q2 : (tkp L z ph kd o fr).2 + z < n
            · rw [if_pos q2]
              obtain ⟨a, b, c⟩ := ih (nt J (nI kd) (nI t) 1) 0 (1 - t) 3 6 o (tkp L z ph kd o fr).2 (tk_y2 (J := J) W hz q0 q1 q2).1 LL (by rw [nt_n]; omega)
              rw [nt_n] at b
              exact ⟨a, by omega, c⟩
            · rw [if_neg q2]
              exact ⟨LL, by show jn (nt J _ _ _) ≤ _; rw [nt_n]; omega, by show 1 - t ≤ 1; omega, fun _ => rfl⟩
      · rw [if_neg f0]
        obtain ⟨a, b, c⟩ := ih (nt J (nI kd) (nI t) 0) (s + 1) t _ _ o _ (tk_no W hz f0).1 (nt_L LJ (by omega)) (by rw [nt_n]; omega)
        rw [nt_n] at b
        exact ⟨a, by omega, c⟩
end TKW
