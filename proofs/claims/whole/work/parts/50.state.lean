/-! THE HEAP OF THE LAW'S RUN, of fixed shape: class at 0..92, reference at 93..120; what changes are whole numbers: S a k (field k of the object at a) and V a (the array at a) -/
abbrev sh_T : Type := (Nat × List (Option Nat)) ⊕ (Nat ⊕ (Nat × List (Option Nat)))
/-- an object of class ci: fields, a reference by its address, or a number -/
def sh_row (r : Nat) : sh_T := .inl (0, [some (r + 1), none])
def sh_card (b : Nat) : sh_T := .inl (2, [none, none, none, none, none, none, none, none, none, none, none, none, some (b + 1), some (b + 8), none, some (b + 11), some (b + 13), none])
def sh_block (b : Nat) : sh_T := .inl (1, [none, none, none, some (b + 1)])
def sh_cards (b : Nat) : List sh_T := [sh_card b, .inr (.inr (2, [some (b + 2), some (b + 4), some (b + 6)])), sh_row (b + 2), .inr (.inl 0), sh_row (b + 4), .inr (.inl 0), sh_row (b + 6), .inr (.inl 0), sh_block (b + 8), sh_row (b + 9), .inr (.inl 0), sh_row (b + 11), .inr (.inl 0), sh_row (b + 13), .inr (.inl 0)]
def sh_mod : List (Option Nat) := [some 94, some 95, some 96, some 97, some 98, some 99, some 100, some 101, some 102, some 103, some 104, some 105, some 106, some 107, none, none, none, none, none, none, some 108, some 109, some 110, some 111, none, none, none, none, none, none, none, none, none, none, none, some 112, some 113, some 114, some 115, none, none, none, none, none, none, none, none, none, none, some 116, some 117, some 118, some 119, some 120]
def sh_L : List sh_T := [.inl (8, [some 1, some 71, some 72, some 88, some 89, some 91]), .inl (4, [some 2, some 63, none, none, none, some 68]), .inr (.inr (3, [some 3, some 18, some 33, some 48]))] ++ (sh_cards 3 ++ (sh_cards 18 ++ (sh_cards 33 ++ (sh_cards 48 ++ ([.inl (3, [some 64, some 65, some 66, some 67, none, none]), .inr (.inl 0), .inr (.inl 0), .inr (.inl 0), .inr (.inl 1), sh_block 68, sh_row 69, .inr (.inl 0), .inl (6, [none, none, none, none, none, none]), .inl (5, [some 73, some 86, none, some 87]), .inr (.inr (2, [some 74, some 76, some 78, some 80, some 82, some 84])), sh_row 74, .inr (.inl 0), sh_row 76, .inr (.inl 0), sh_row 78, .inr (.inl 0), sh_row 80, .inr (.inl 0), sh_row 82, .inr (.inl 0), sh_row 84, .inr (.inl 0), .inr (.inl 1), .inr (.inl 1), .inl (7, [none, none, none, none, none, none, none, none]), sh_row 89, .inr (.inl 0), sh_row 91, .inr (.inl 0), .inl (9, sh_mod), .inr (.inl 1), .inr (.inl 1), .inr (.inl 1), .inr (.inl 0), .inr (.inl 0), .inr (.inl 0), .inr (.inl 0), .inr (.inl 0), .inr (.inl 0), .inr (.inl 0), .inr (.inl 0), .inr (.inl 0), .inr (.inl 0), .inr (.inl 0), .inr (.inl 0), .inr (.inl 0), .inr (.inl 0), .inr (.inl 1), .inr (.inl 0), .inr (.inl 0), .inr (.inl 0), .inr (.inl 0), .inr (.inl 0), .inr (.inl 0), .inr (.inl 0), .inr (.inl 0), .inr (.inl 0)])))))
abbrev st_S : Type := Nat → Nat → Int32
abbrev st_V : Type := Nat → List Int32
def fl_o (a : Nat) (S : st_S) : Nat → List (Option Nat) → List Value
  | _, [] => []
  | k, some r :: l => .ref r :: fl_o a S (k + 1) l
  | k, none :: l => .int (S a k) :: fl_o a S (k + 1) l
def fl_e (a : Nat) (S : st_S) (V : st_V) (s : sh_T) : am_E := match s with
  | .inl o => .inl (o.1, fl_o a S 0 o.2)
  | .inr (.inl t) => .inr (.inl (t, V a))
  | .inr (.inr o) => .inr (.inr o)
def HS (S : st_S) (V : st_V) (a : Nat) : Option am_E := (sh_L[a]?).map (fl_e a S V)
def hs (S : st_S) (V : st_V) : am_H := (121, 2508, HS S V)
def uS (S : st_S) (a k : Nat) (v : Int32) : st_S := fun a' k' => if a' = a ∧ k' = k then v else S a' k'
def uV (V : st_V) (a : Nat) (l : List Int32) : st_V := fun a' => if a' = a then l else V a'
theorem fl_get (a : Nat) (S : st_S) : ∀ (l : List (Option Nat)) (j k : Nat), (fl_o a S j l)[k]? = (l[k]?).map (fun o => match o with | some r => Value.ref r | none => .int (S a (j + k)))
  | [], j, k => by simp [fl_o]
  | some r :: l, j, 0 => rfl
  | none :: l, j, 0 => rfl
  | some r :: l, j, k + 1 => by
    show (fl_o a S (j + 1) l)[k]? = _
    rw [fl_get a S l (j + 1) k]
    simp only [List.getElem?_cons_succ, Nat.add_assoc, Nat.add_comm 1 k]
  | none :: l, j, k + 1 => by
    show (fl_o a S (j + 1) l)[k]? = _
    rw [fl_get a S l (j + 1) k]
    simp only [List.getElem?_cons_succ, Nat.add_assoc, Nat.add_comm 1 k]
theorem fl_len (a : Nat) (S : st_S) : ∀ (l : List (Option Nat)) (j : Nat), (fl_o a S j l).length = l.length
  | [], j => rfl
  | some r :: l, j => by show (fl_o a S (j + 1) l).length + 1 = l.length + 1; rw [fl_len a S l (j + 1)]
  | none :: l, j => by show (fl_o a S (j + 1) l).length + 1 = l.length + 1; rw [fl_len a S l (j + 1)]
theorem fl_set (a : Nat) (S : st_S) (l : List (Option Nat)) (k : Nat) (v : Int32) (hk : l[k]? = some none) : (fl_o a S 0 l).set k (.int v) = fl_o a (uS S a k v) 0 l := by
  apply List.ext_getElem?
  intro j
  by_cases hj : j = k
  · subst hj
    have hlt : j < (fl_o a S 0 l).length := by rw [fl_len]; exact (List.getElem?_eq_some_iff.mp hk).1
    rw [List.getElem?_set_self hlt, fl_get, hk]
    simp [uS]
  · rw [List.getElem?_set_ne (Ne.symm hj), fl_get, fl_get]
    congr 1
    funext o
    cases o with
    | some r => rfl
    | none => simp [uS, hj]
theorem fl_other {a b : Nat} (hab : a ≠ b) (S : st_S) (k : Nat) (v : Int32) : ∀ (l : List (Option Nat)) (j : Nat), fl_o a (uS S b k v) j l = fl_o a S j l
  | [], j => rfl
  | some r :: l, j => by show Value.ref r :: _ = Value.ref r :: _; rw [fl_other hab S k v l (j + 1)]
  | none :: l, j => by
    show Value.int (uS S b k v a j) :: _ = Value.int (S a j) :: _
    rw [fl_other hab S k v l (j + 1)]
    simp [uS, hab]
section STS
variable {S : st_S} {V : st_V} {a k ci t : Nat} {fs : List (Option Nat)}
theorem hs_at {s : sh_T} (hs' : sh_L[a]? = some s) : (hs S V).2.2 a = some (fl_e a S V s) := by
  show (sh_L[a]?).map _ = _
  rw [hs']; rfl
theorem hs_get (h1 : sh_L[a]? = some (.inl (ci, fs))) (h2 : fs[k]? = some none) : am_get (hs S V) a ci k = some (.int (S a k)) := by
  unfold am_get
  rw [hs_at h1]
  simp [fl_e, fl_get, h2]
theorem hs_getr {r : Nat} (h1 : sh_L[a]? = some (.inl (ci, fs))) (h2 : fs[k]? = some (some r)) : am_get (hs S V) a ci k = some (.ref r) := by
  unfold am_get
  rw [hs_at h1]
  simp [fl_e, fl_get, h2]
theorem hs_is (h1 : sh_L[a]? = some (.inl (ci, fs))) : am_is (hs S V) a ci = true := by
  unfold am_is
  rw [hs_at h1]
  simp [fl_e]
theorem hs_put {v : Int32} (h1 : sh_L[a]? = some (.inl (ci, fs))) (h2 : fs[k]? = some none) : am_put (hs S V) a ci k (.int v) = some (hs (uS S a k v) V) := by
  unfold am_put
  rw [hs_at h1]
  have hl : k < (fl_o a S 0 fs).length := by rw [fl_len]; exact (List.getElem?_eq_some_iff.mp h2).1
  simp only [fl_e, true_and, hl, if_true]
  rw [fl_set a S fs k v h2]
  unfold hs
  congr 3
  funext j
  unfold am_up HS
  by_cases hj : j = a
  · subst hj
    rw [if_pos rfl, h1]
    rfl
  · rw [if_neg hj]
    show (sh_L[j]?).map (fl_e j S V) = _
    congr 1
    funext s
    rcases s with o | t | o
    · simp [fl_e, fl_other hj]
    · rfl
    · rfl
theorem hs_ld {x : Int32} (h1 : sh_L[a]? = some (.inr (.inl t))) (hx : ¬ x < 0) : am_ld (hs S V) a t x = (V a)[x.toNatClampNeg]? := by
  unfold am_ld
  rw [hs_at h1]
  simp [fl_e, hx]
theorem hs_sv {x v : Int32} (h1 : sh_L[a]? = some (.inr (.inl t))) (hx : ¬ x < 0) (hl : x.toNatClampNeg < (V a).length) : am_sv (hs S V) a t x v = some (hs S (uV V a ((V a).set x.toNatClampNeg v))) := by
  unfold am_sv
  rw [hs_at h1]
  simp only [fl_e, true_and, hl, hx, not_false_eq_true, if_true]
  unfold hs
  congr 3
  funext j
  unfold am_up HS
  by_cases hj : j = a
  · subst hj
    rw [if_pos rfl, h1]
    simp [fl_e, uV]
  · rw [if_neg hj]
    show (sh_L[j]?).map (fl_e j S V) = _
    congr 1
    funext s
    rcases s with o | t | o
    · rfl
    · simp [fl_e, uV, hj]
    · rfl
theorem hs_len (h1 : sh_L[a]? = some (.inr (.inl t))) (ht : (am_ats[t]?).isSome = true) : am_len (hs S V) a = some (Int32.ofNat (V a).length) := by
  unfold am_len
  rw [hs_at h1]
  simp [fl_e, ht]
theorem hs_ldq {x : Int32} {qs : List (Option Nat)} {q : Nat} (h1 : sh_L[a]? = some (.inr (.inr (t, qs)))) (ht : am_isq t = true) (hx : ¬ x < 0) (hq : qs[x.toNatClampNeg]? = some (some q)) : am_ldq (hs S V) a x = some (.ref q) := by
  unfold am_ldq
  rw [hs_at h1]
  simp [fl_e, ht, hx, hq, va_rf]
end STS
theorem uS_self (S : st_S) (a k : Nat) (v : Int32) : uS S a k v a k = v := by simp [uS]
theorem uV_self (V : st_V) (a : Nat) (l : List Int32) : uV V a l a = l := by simp [uV]
theorem uS_ne {S : st_S} {a k a' k' : Nat} {v : Int32} (h : ¬ (a' = a ∧ k' = k)) : uS S a k v a' k' = S a' k' := by simp [uS, h]
theorem uV_ne {V : st_V} {a a' : Nat} {l : List Int32} (h : ¬ a' = a) : uV V a l a' = V a' := by simp [uV, h]
theorem uV_uV (V : st_V) (a : Nat) (l l' : List Int32) : uV (uV V a l) a l' = uV V a l' := by
  funext j; unfold uV; split <;> rfl
theorem uS_uS (S : st_S) (a k : Nat) (v v' : Int32) : uS (uS S a k v) a k v' = uS S a k v' := by
  funext j i; unfold uS; split <;> rfl
