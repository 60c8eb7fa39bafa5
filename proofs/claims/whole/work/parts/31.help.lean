/-! helpers of the printed equations -/
def am_is (h : am_H) (b ci : Nat) : Bool := match h.2.2 b with
  | some (.inl o) => decide (o.1 = ci)
  | _ => false
theorem am_rc_is {h : am_H} {b y : Nat} {q : am_M} (hq : am_ms[y]? = some q) {ci : Nat} (hc : q.2.2.2.2.1 = ci) (hb : am_is h b ci = true) : am_rc h b y = true := by
  subst hc
  unfold am_is at hb
  unfold am_rc
  split at hb
  · rename_i o ho
    rw [ho, hq]
    exact hb
  · cases hb
theorem am_g_of {y n : Nat} {as rest : List Value} {q : am_M} (hq : am_ms[y]? = some q) (h1 : as.length ≤ q.2.2.1) (h2 : as.all (fun v => decide (v.category = 1)) = true) (h3 : am_cat rest ≤ 8) (h4 : as.length = n) : am_g y n as rest = true := by
  unfold am_g
  rw [hq]
  simp only [h2, Bool.and_true, Bool.and_eq_true, decide_eq_true_eq]
  exact ⟨⟨h1, h3⟩, h4⟩
theorem am_cat_nil : am_cat [] = 0 := rfl
theorem am_cat_int (x : Int32) (st : List Value) : am_cat (.int x :: st) = 1 + am_cat st := rfl
theorem am_cat_ref (x : Nat) (st : List Value) : am_cat (.ref x :: st) = 1 + am_cat st := rfl
section RNH
variable {d y pc pc' : Nat} {lc : am_L} {st : List Value} {h : am_H} {q : am_M}
theorem rn_ifn {x : Int32} {off : Int} {tgt : Nat} (cd : Jvm.ClassFile.Cond) {c : Prop} [Decidable c] (hc : am_c1 cd x = true ↔ ¬ c) (hq : am_ms[y]? = some q) (hd : decode q.2.1 pc = .ok (.ifCond cd off, 3)) (ht : (pc : Int) + off = (tgt : Int)) (hp : pc + 3 = pc') : rn d y pc lc (.int x :: st) h = if c then rn d y pc' lc st h else rn d y tgt lc st h := by
  rw [rn_if cd hc hq hd ht hp]
  by_cases z : c
  · rw [if_pos z, if_neg (fun w => w z)]
  · rw [if_neg z, if_pos z]
theorem rn_icmpn {a b : Int32} {off : Int} {tgt : Nat} (cd : Jvm.ClassFile.Cond) {c : Prop} [Decidable c] (hc : am_c2 cd a b = true ↔ ¬ c) (hq : am_ms[y]? = some q) (hd : decode q.2.1 pc = .ok (.if_icmp cd off, 3)) (ht : (pc : Int) + off = (tgt : Int)) (hp : pc + 3 = pc') : rn d y pc lc (.int b :: .int a :: st) h = if c then rn d y pc' lc st h else rn d y tgt lc st h := by
  rw [rn_icmp cd hc hq hd ht hp]
  by_cases z : c
  · rw [if_pos z, if_neg (fun w => w z)]
  · rw [if_neg z, if_pos z]
theorem c1_eq (x : Int32) : am_c1 .eq x = true ↔ x = 0 := decide_eq_true_iff
theorem c1_ne (x : Int32) : am_c1 .ne x = true ↔ ¬ x = 0 := decide_eq_true_iff
theorem c1_lt (x : Int32) : am_c1 .lt x = true ↔ x < 0 := decide_eq_true_iff
theorem c1_ge (x : Int32) : am_c1 .ge x = true ↔ ¬ x < 0 := decide_eq_true_iff.trans Int32.not_lt.symm
theorem c1_gt (x : Int32) : am_c1 .gt x = true ↔ 0 < x := decide_eq_true_iff
theorem c1_le (x : Int32) : am_c1 .le x = true ↔ ¬ 0 < x := decide_eq_true_iff.trans Int32.not_lt.symm
theorem c2_eq (x y : Int32) : am_c2 .eq x y = true ↔ x = y := decide_eq_true_iff
theorem c2_ne (x y : Int32) : am_c2 .ne x y = true ↔ ¬ x = y := decide_eq_true_iff
theorem c2_lt (x y : Int32) : am_c2 .lt x y = true ↔ x < y := decide_eq_true_iff
theorem c2_ge (x y : Int32) : am_c2 .ge x y = true ↔ ¬ x < y := decide_eq_true_iff.trans Int32.not_lt.symm
theorem c2_gt (x y : Int32) : am_c2 .gt x y = true ↔ y < x := decide_eq_true_iff
theorem c2_le (x y : Int32) : am_c2 .le x y = true ↔ ¬ y < x := decide_eq_true_iff.trans Int32.not_lt.symm
end RNH
theorem nb_0 : narrow .boolean (.int 0) = .int 0 := rfl
theorem nb_1 : narrow .boolean (.int 1) = .int 1 := rfl
theorem ob_0 : am_ok .boolean (.int 0) = true := by decide +kernel
theorem ob_1 : am_ok .boolean (.int 1) = true := by decide +kernel
theorem am_ok_of {ty : FieldType} {v : Value} (h1 : narrow ty v = v) (h2 : fits ty v = true) : am_ok ty v = true := by
  unfold am_ok
  rw [Bool.and_eq_true]
  exact ⟨decide_eq_true h1, h2⟩
theorem ok_int (x : Int32) : am_ok .int (.int x) = true := am_ok_of rfl rfl
theorem ok_obj (C : String) (x : Nat) : am_ok (.object C) (.ref x) = true := am_ok_of rfl rfl
theorem ok_arr (t : FieldType) (x : Nat) : am_ok (.array t) (.ref x) = true := am_ok_of rfl rfl
