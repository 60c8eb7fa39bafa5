/-! THE SMALL MACHINE: what the methods of the system do, over a heap of its own cells alone (addresses count from 0), as a function; it follows the bytes by 'decode'. The tables am_.. stand in the part ahead. -/
def am_up (f : Nat → Option am_E) (k : Nat) (e : am_E) : Nat → Option am_E := fun j => if j = k then some e else f j
def am_get (h : am_H) (a ci k : Nat) : Option Value := match h.2.2 a with
  | some (.inl o) => if o.1 = ci then o.2[k]? else none
  | _ => none
def am_put (h : am_H) (a ci k : Nat) (v : Value) : Option am_H := match h.2.2 a with
  | some (.inl o) => if o.1 = ci ∧ k < o.2.length then some (h.1, h.2.1, am_up h.2.2 a (.inl (ci, o.2.set k v))) else none
  | _ => none
def am_ld (h : am_H) (a t : Nat) (i : Int32) : Option Int32 := match h.2.2 a with
  | some (.inr (.inl o)) => if o.1 = t ∧ ¬ i < 0 then o.2[i.toNatClampNeg]? else none
  | _ => none
def am_sv (h : am_H) (a t : Nat) (i x : Int32) : Option am_H := match h.2.2 a with
  | some (.inr (.inl o)) => if o.1 = t ∧ ¬ i < 0 ∧ i.toNatClampNeg < o.2.length then some (h.1, h.2.1, am_up h.2.2 a (.inr (.inl (t, o.2.set i.toNatClampNeg x)))) else none
  | _ => none
def am_isq (t : Nat) : Bool := match am_ats[t]? with
  | some (.object _) => true
  | _ => false
def am_len (h : am_H) (a : Nat) : Option Int32 := match h.2.2 a with
  | some (.inr (.inl o)) => if (am_ats[o.1]?).isSome = true then some (Int32.ofNat o.2.length) else none
  | some (.inr (.inr o)) => if (am_ats[o.1]?).isSome = true then some (Int32.ofNat o.2.length) else none
  | _ => none
def am_ldq (h : am_H) (a : Nat) (i : Int32) : Option Value := match h.2.2 a with
  | some (.inr (.inr o)) => if am_isq o.1 = true ∧ ¬ i < 0 then (o.2[i.toNatClampNeg]?).map va_rf else none
  | _ => none
def am_stq (h : am_H) (a : Nat) (i : Int32) (v : Nat) : Option am_H := match h.2.2 a with
  | some (.inr (.inr o)) => (match h.2.2 v with
    | some (.inl x) => if am_ac o.1 = some x.1 ∧ ¬ i < 0 ∧ i.toNatClampNeg < o.2.length then some (h.1, h.2.1, am_up h.2.2 a (.inr (.inr (o.1, o.2.set i.toNatClampNeg (some v))))) else none
    | _ => none)
  | _ => none
def am_new (h : am_H) (e : am_E) (n : Nat) : am_H := (h.1 + 1, h.2.1 + n, am_up h.2.2 h.1 e)
def am_ok (ty : FieldType) (v : Value) : Bool := decide (narrow ty v = v) && fits ty v
def am_cat (st : List Value) : Nat := (st.map fun v => v.category).sum
def am_j (pc : Nat) (off : Int) : Nat := ((pc : Int) + off).toNat
def am_c1 (c : Jvm.ClassFile.Cond) (x : Int32) : Bool := match c with
  | .eq => decide (x = 0)
  | .ne => decide (¬ x = 0)
  | .lt => decide (x < 0)
  | .ge => decide (0 ≤ x)
  | .gt => decide (0 < x)
  | .le => decide (x ≤ 0)
def am_c2 (c : Jvm.ClassFile.Cond) (x y : Int32) : Bool := match c with
  | .eq => decide (x = y)
  | .ne => decide (¬ x = y)
  | .lt => decide (x < y)
  | .ge => decide (y ≤ x)
  | .gt => decide (y < x)
  | .le => decide (x ≤ y)
def am_li (lc : am_L) (i : Nat) (st : List Value) : Option (am_L × List Value) := match lc[i]? with
  | some (some (.int x)) => some (lc, .int x :: st)
  | _ => none
def am_la (lc : am_L) (i : Nat) (st : List Value) : Option (am_L × List Value) := match lc[i]? with
  | some (some (.ref x)) => some (lc, .ref x :: st)
  | _ => none
def am_si (lc : am_L) (i : Nat) (st : List Value) : Option (am_L × List Value) := match st with
  | .int x :: r => if i < lc.length then some (lc.set i (some (.int x)), r) else none
  | _ => none
def am_sa (lc : am_L) (i : Nat) (st : List Value) : Option (am_L × List Value) := match st with
  | .ref x :: r => if i < lc.length then some (lc.set i (some (.ref x)), r) else none
  | _ => none
def am_ii (lc : am_L) (i : Nat) (n : Int) (st : List Value) : Option (am_L × List Value) := match lc[i]? with
  | some (some (.int x)) => if i < lc.length then some (lc.set i (some (.int (x + Int32.ofInt n))), st) else none
  | _ => none
def am_b2 (f : Int32 → Int32 → Int32) (lc : am_L) (st : List Value) : Option (am_L × List Value) := match st with
  | .int y :: .int x :: r => some (lc, .int (f x y) :: r)
  | _ => none
/-- what touches no heap and goes on behind itself -/
def am_pu (i : Instr) (len : Nat) (lc : am_L) (st : List Value) : Option (am_L × List Value) := match i, len with
  | .iconst n, 1 => some (lc, .int (Int32.ofInt n) :: st)
  | .bipush n, 2 => some (lc, .int (Int8.ofInt n).toInt32 :: st)
  | .sipush n, 3 => some (lc, .int (Int16.ofInt n).toInt32 :: st)
  | .iload_n k, 1 => am_li lc k st
  | .iload k, 2 => am_li lc k st
  | .aload_n k, 1 => am_la lc k st
  | .aload k, 2 => am_la lc k st
  | .istore_n k, 1 => am_si lc k st
  | .istore k, 2 => am_si lc k st
  | .astore_n k, 1 => am_sa lc k st
  | .astore k, 2 => am_sa lc k st
  | .iinc k n, 3 => am_ii lc k n st
  | .iadd, 1 => am_b2 (fun x y => x + y) lc st
  | .isub, 1 => am_b2 (fun x y => x - y) lc st
  | .imul, 1 => am_b2 (fun x y => x * y) lc st
  | .iand, 1 => am_b2 (fun x y => x &&& y) lc st
  | .ior, 1 => am_b2 (fun x y => x ||| y) lc st
  | .ixor, 1 => am_b2 (fun x y => x ^^^ y) lc st
  | .ishl, 1 => am_b2 (fun x y => x <<< (y &&& 31)) lc st
  | .ishr, 1 => am_b2 (fun x y => x >>> (y &&& 31)) lc st
  | .iushr, 1 => am_b2 (fun x y => (x.toUInt32 >>> (y.toUInt32 &&& Int32.toUInt32 31)).toInt32) lc st
  | .irem, 1 => (match st with
    | .int y :: .int x :: r => if ¬ y = 0 then some (lc, .int (x - x / y * y) :: r) else none
    | _ => none)
  | .idiv, 1 => (match st with
    | .int y :: .int x :: r => if ¬ y = 0 then some (lc, .int (x / y) :: r) else none
    | _ => none)
  | .ineg, 1 => (match st with
    | .int x :: r => some (lc, .int (-x) :: r)
    | _ => none)
  | .dup, 1 => (match st with
    | v :: r => if v.category = 1 then some (lc, v :: v :: r) else none
    | _ => none)
  | .pop, 1 => (match st with
    | v :: r => if v.category = 1 then some (lc, r) else none
    | _ => none)
  | .dup_x1, 1 => (match st with
    | v :: w :: r => if v.category = 1 ∧ w.category = 1 then some (lc, v :: w :: v :: r) else none
    | _ => none)
  | .dup_x2, 1 => (match st with
    | v :: w :: x :: r => if v.category = 1 ∧ w.category = 1 ∧ x.category = 1 then some (lc, v :: w :: x :: v :: r) else none
    | _ => none)
  | .dup2, 1 => (match st with
    | v :: w :: r => if v.category = 1 ∧ w.category = 1 then some (lc, v :: w :: v :: w :: r) else none
    | _ => none)
  | _, _ => none
/-- jumps -/
def am_bb (i : Instr) (len pc : Nat) (st : List Value) : Option (Nat × List Value) := match i with
  | .ifCond c off => (match st with
    | .int x :: r => if len = 3 ∧ 0 ≤ (pc : Int) + off then some (if am_c1 c x then am_j pc off else pc + 3, r) else none
    | _ => none)
  | .if_icmp c off => (match st with
    | .int y :: .int x :: r => if len = 3 ∧ 0 ≤ (pc : Int) + off then some (if am_c2 c x y then am_j pc off else pc + 3, r) else none
    | _ => none)
  | .goto off => if len = 3 ∧ 0 ≤ (pc : Int) + off then some (am_j pc off, st) else none
  | .tableswitch dflt a b offs => (match st with
    | .int x :: r => if x.toInt < a ∨ b < x.toInt then (if 0 ≤ (pc : Int) + dflt then some (am_j pc dflt, r) else none) else (match offs[(x.toInt - a).toNat]? with
      | some off => if 0 ≤ (pc : Int) + off then some (am_j pc off, r) else none
      | none => none)
    | _ => none)
  | .lookupswitch dflt ps => (match st with
    | .int x :: r => if (ps.toList.zip (ps.toList.drop 1)).all (fun (a, next) => a.1 < next.1) = true ∧ 0 ≤ (pc : Int) + Op.lookupswitch.offset ps.toList dflt x.toInt then some (am_j pc (Op.lookupswitch.offset ps.toList dflt x.toInt), r) else none
    | _ => none)
  | _ => none
/-- what reads or writes the heap and goes on behind itself -/
def am_hp (q : am_M) (i : Instr) (len : Nat) (st : List Value) (h : am_H) : Option (List Value × am_H) := match i, len with
  | .getfield idx, 3 => (match am_fl q.2.2.2.2.1 idx with
    | some f => (match st with
      | .ref a :: r => (am_get h a f.1 f.2.1).map (fun v => (v :: r, h))
      | _ => none)
    | none => none)
  | .putfield idx, 3 => (match am_fl q.2.2.2.2.1 idx with
    | some f => (match st with
      | v :: .ref a :: r => if am_ok f.2.2.1 v = true ∧ (f.2.2.2 = false ∨ (q.2.2.2.2.2 = true ∧ q.2.2.2.2.1 = f.1)) then (am_put h a f.1 f.2.1 v).map (fun h' => (r, h')) else none
      | _ => none)
    | none => none)
  | .iaload, 1 => (match st with
    | .int x :: .ref a :: r => (am_ld h a 0 x).map (fun v => (.int v :: r, h))
    | _ => none)
  | .baload, 1 => (match st with
    | .int x :: .ref a :: r => (am_ld h a 1 x).map (fun v => (.int v :: r, h))
    | _ => none)
  | .aaload, 1 => (match st with
    | .int x :: .ref a :: r => (am_ldq h a x).map (fun v => (v :: r, h))
    | _ => none)
  | .iastore, 1 => (match st with
    | .int v :: .int x :: .ref a :: r => (am_sv h a 0 x v).map (fun h' => (r, h'))
    | _ => none)
  | .bastore, 1 => (match st with
    | .int v :: .int x :: .ref a :: r => (am_sv h a 1 x (vp_nar .boolean v)).map (fun h' => (r, h'))
    | _ => none)
  | .aastore, 1 => (match st with
    | .ref v :: .int x :: .ref a :: r => (am_stq h a x v).map (fun h' => (r, h'))
    | _ => none)
  | .arraylength, 1 => (match st with
    | .ref a :: r => (am_len h a).map (fun v => (.int v :: r, h))
    | _ => none)
  | .new idx, 3 => (match am_cl q.2.2.2.2.1 idx with
    | some ci => some (.ref h.1 :: st, am_new h (.inl (ci, am_df ci)) (am_df ci).length)
    | none => none)
  | .newarray .int, 2 => (match st with
    | .int n :: r => if ¬ n < 0 ∧ n.toNatClampNeg ≤ 1000000 then some (.ref h.1 :: r, am_new h (.inr (.inl (0, List.replicate n.toNatClampNeg 0))) n.toNatClampNeg) else none
    | _ => none)
  | .newarray .boolean, 2 => (match st with
    | .int n :: r => if ¬ n < 0 ∧ n.toNatClampNeg ≤ 1000000 then some (.ref h.1 :: r, am_new h (.inr (.inl (1, List.replicate n.toNatClampNeg 0))) n.toNatClampNeg) else none
    | _ => none)
  | .anewarray idx, 3 => (match am_al q.2.2.2.2.1 idx with
    | some t => (match st with
      | .int n :: r => if ¬ n < 0 ∧ n.toNatClampNeg ≤ 1000000 then some (.ref h.1 :: r, am_new h (.inr (.inr (t, List.replicate n.toNatClampNeg none))) n.toNatClampNeg) else none
      | _ => none)
    | none => none)
  | .ldc idx, 2 => (match am_kc q.2.2.2.2.1 idx with
    | some v => some (.int v :: st, h)
    | none => none)
  | .ldc_w idx, 3 => (match am_kc q.2.2.2.2.1 idx with
    | some v => some (.int v :: st, h)
    | none => none)
  | .invokespecial idx, 3 => (match am_ml q.2.2.2.2.1 idx with
    | some f => (match st with
      | .ref _ :: r => if f.2.1 = 6 ∧ am_cat r ≤ 8 then some (r, h) else none
      | _ => none)
    | none => none)
  | .invokestatic idx, 3 => (match am_ml q.2.2.2.2.1 idx with
    | some f => (match st with
      | .int y :: .int x :: r => if f.2.1 = 7 ∧ am_cat r ≤ 8 then some (.int (if y < x then y else x) :: r, h) else none
      | _ => none)
    | none => none)
  | _, _ => none
/-- returns -/
def am_rt (q : am_M) (i : Instr) (len : Nat) (st : List Value) : Option (Option Value) := match i, len with
  | .ireturn, 1 => (match st, q.2.2.2.1 with
    | [.int v], some ty => if narrow ty (.int v) = .int v then some (some (.int v)) else none
    | _, _ => none)
  | .return_, 1 => (match st, q.2.2.2.1 with
    | [], none => some none
    | _, _ => none)
  | .areturn, 1 => (match st, q.2.2.2.1 with
    | [.ref a], some (.object _) => some (some (.ref a))
    | [.ref a], some (.array _) => some (some (.ref a))
    | _, _ => none)
  | _, _ => none
/-- the receiver is an object of the method's own class -/
def am_rc (h : am_H) (b y : Nat) : Bool := match h.2.2 b with
  | some (.inl o) => (match am_ms[y]? with
    | some q => decide (o.1 = q.2.2.2.2.1)
    | none => false)
  | _ => false
def am_g (y n : Nat) (as rest : List Value) : Bool := match am_ms[y]? with
  | some q => decide (as.length ≤ q.2.2.1) && as.all (fun v => decide (v.category = 1)) && decide (am_cat rest ≤ 8) && decide (as.length = n)
  | none => false
def am_ca (q : am_M) (i : Instr) (len : Nat) (st : List Value) (h : am_H) : Option (Nat × List Value × List Value) := match i, len with
  | .invokevirtual idx, 3 => (match am_ml q.2.2.2.2.1 idx with
    | some f => (match st.drop f.2.2 with
      | .ref b :: r => if (f.2.1 = 0 ∨ f.2.1 = 1) ∧ am_rc h b f.1 = true ∧ am_g f.1 (f.2.2 + 1) (.ref b :: (st.take f.2.2).reverse) r = true then some (f.1, .ref b :: (st.take f.2.2).reverse, r) else none
      | _ => none)
    | none => none)
  | .invokestatic idx, 3 => (match am_ml q.2.2.2.2.1 idx with
    | some f => if (f.2.1 = 2 ∨ f.2.1 = 3) ∧ am_g f.1 f.2.2 (st.take f.2.2).reverse (st.drop f.2.2) = true then some (f.1, (st.take f.2.2).reverse, st.drop f.2.2) else none
    | none => none)
  | .invokespecial idx, 3 => (match am_ml q.2.2.2.2.1 idx with
    | some f => (match st.drop f.2.2 with
      | .ref b :: r => if (f.2.1 = 4 ∨ f.2.1 = 5) ∧ am_g f.1 (f.2.2 + 1) (.ref b :: (st.take f.2.2).reverse) r = true then some (f.1, .ref b :: (st.take f.2.2).reverse, r) else none
      | _ => none)
    | none => none)
  | _, _ => none
def am_go (q : am_M) (i : Instr) (len pc : Nat) (lc : am_L) (st : List Value) (h : am_H) : am_O := match am_pu i len lc st with
  | some r => some (.inl (pc + len, r.1, r.2, h))
  | none => match am_bb i len pc st with
    | some r => some (.inl (r.1, lc, r.2, h))
    | none => match am_hp q i len st h with
      | some r => some (.inl (pc + len, lc, r.1, r.2))
      | none => match am_rt q i len st with
        | some r => some (.inr (.inl r))
        | none => match am_ca q i len st h with
          | some r => some (.inr (.inr r))
          | none => none
def am_en (y : Nat) (as : List Value) : am_L := match am_ms[y]? with
  | some q => as.map some ++ List.replicate (q.2.2.1 - as.length) none
  | none => []
/-- one instruction, and what comes behind it by 'rec' -/
def am_bd (rec : Nat → Nat → Nat → am_L → List Value → am_H → Option (Option Value × am_H)) (d y pc : Nat) (lc : am_L) (st : List Value) (h : am_H) : Option (Option Value × am_H) := match am_ms[y]? with
  | none => none
  | some q => match decode q.2.1 pc with
    | .error _ => none
    | .ok il => match am_go q il.1 il.2 pc lc st h with
      | none => none
      | some (.inl r) => rec d y r.1 r.2.1 r.2.2.1 r.2.2.2
      | some (.inr (.inl r)) => some (r, h)
      | some (.inr (.inr r)) => match d with
        | 0 => none
        | d' + 1 => match rec d' r.1 0 (am_en r.1 r.2.1) [] h with
          | none => none
          | some x => rec (d' + 1) y (pc + 3) lc (x.1.toList ++ r.2.2) x.2
def am_run : Nat → Nat → Nat → Nat → am_L → List Value → am_H → Option (Option Value × am_H)
  | 0, _, _, _, _, _, _ => none
  | n + 1, d, y, pc, lc, st, h => am_bd (fun d y pc lc st h => am_run n d y pc lc st h) d y pc lc st h
theorem am_bd_mono {f g : Nat → Nat → Nat → am_L → List Value → am_H → Option (Option Value × am_H)} (hfg : ∀ d y pc lc st h R, f d y pc lc st h = some R → g d y pc lc st h = some R) {d y pc : Nat} {lc : am_L} {st : List Value} {h : am_H} {R : Option Value × am_H} (hR : am_bd f d y pc lc st h = some R) : am_bd g d y pc lc st h = some R := by
  unfold am_bd at hR ⊢
  cases hq : am_ms[y]? with
  | none => rw [hq] at hR; cases hR
  | some q =>
    rw [hq] at hR
    dsimp only at hR ⊢
    cases hd : decode q.2.1 pc with
    | error e => rw [hd] at hR; cases hR
    | ok il =>
      rw [hd] at hR
      dsimp only at hR ⊢
      cases hg : am_go q il.1 il.2 pc lc st h with
      | none => rw [hg] at hR; cases hR
      | some z =>
        rw [hg] at hR
        obtain r | r | r := z
        · exact hfg _ _ _ _ _ _ _ hR
        · exact hR
        · cases d with
          | zero => cases hR
          | succ d' =>
            dsimp only at hR ⊢
            cases hc : f d' r.1 0 (am_en r.1 r.2.1) [] h with
            | none => rw [hc] at hR; cases hR
            | some x =>
              rw [hc] at hR
              rw [hfg _ _ _ _ _ _ _ hc]
              exact hfg _ _ _ _ _ _ _ hR
theorem am_run_s (n : Nat) : ∀ (d y pc : Nat) (lc : am_L) (st : List Value) (h : am_H) (R : Option Value × am_H), am_run n d y pc lc st h = some R → am_run (n + 1) d y pc lc st h = some R := by
  induction n with
  | zero => intro d y pc lc st h R hR; cases hR
  | succ n ih =>
    intro d y pc lc st h R hR
    exact am_bd_mono (f := fun d y pc lc st h => am_run n d y pc lc st h) (g := fun d y pc lc st h => am_run (n + 1) d y pc lc st h) ih hR
theorem am_run_le {n m : Nat} (hnm : n ≤ m) {d y pc : Nat} {lc : am_L} {st : List Value} {h : am_H} {R : Option Value × am_H} (hR : am_run n d y pc lc st h = some R) : am_run m d y pc lc st h = some R := by
  induction hnm with
  | refl => exact hR
  | step _ ih => exact am_run_s _ _ _ _ _ _ _ _ ih
noncomputable def rn (d y pc : Nat) (lc : am_L) (st : List Value) (h : am_H) : Option (Option Value × am_H) :=
  @dite _ (∃ R : Option Value × am_H, ∃ n : Nat, am_run n d y pc lc st h = some R) (Classical.propDecidable _) (fun hx => some (Classical.choose hx)) (fun _ => none)
theorem rn_iff {d y pc : Nat} {lc : am_L} {st : List Value} {h : am_H} {R : Option Value × am_H} : rn d y pc lc st h = some R ↔ ∃ n : Nat, am_run n d y pc lc st h = some R := by
  unfold rn
  by_cases hx : ∃ R : Option Value × am_H, ∃ n : Nat, am_run n d y pc lc st h = some R
  · rw [dif_pos hx]
    obtain ⟨m, hm⟩ := Classical.choose_spec hx
    constructor
    · intro e
      rw [← Option.some.inj e]
      exact ⟨m, hm⟩
    · rintro ⟨n, hn⟩
      have h1 := am_run_le (Nat.le_max_left n m) hn
      have h2 := am_run_le (Nat.le_max_right n m) hm
      rw [h1] at h2
      exact h2.symm
  · rw [dif_neg hx]
    constructor
    · intro e; cases e
    · intro hn; exact absurd ⟨R, hn⟩ hx
theorem rn_eq (d y pc : Nat) (lc : am_L) (st : List Value) (h : am_H) : rn d y pc lc st h = am_bd rn d y pc lc st h := by
  have key : ∀ R, rn d y pc lc st h = some R ↔ am_bd rn d y pc lc st h = some R := by
    intro R
    constructor
    · intro hR
      obtain ⟨n, hn⟩ := rn_iff.mp hR
      cases n with
      | zero => cases hn
      | succ n => exact am_bd_mono (f := fun d y pc lc st h => am_run n d y pc lc st h) (fun d y pc lc st h R hR => rn_iff.mpr ⟨n, hR⟩) hn
    · intro hR
      have : ∃ n : Nat, am_bd (fun d y pc lc st h => am_run n d y pc lc st h) d y pc lc st h = some R := by
        unfold am_bd at hR ⊢
        cases hq : am_ms[y]? with
        | none => rw [hq] at hR; cases hR
        | some q =>
          rw [hq] at hR
          dsimp only at hR ⊢
          cases hd : decode q.2.1 pc with
          | error e => rw [hd] at hR; cases hR
          | ok il =>
            rw [hd] at hR
            dsimp only at hR ⊢
            cases hg : am_go q il.1 il.2 pc lc st h with
            | none => rw [hg] at hR; cases hR
            | some z =>
              rw [hg] at hR
              obtain r | r | r := z
              · exact rn_iff.mp hR
              · exact ⟨0, hR⟩
              · cases d with
                | zero => cases hR
                | succ d' =>
                  dsimp only at hR ⊢
                  cases hc : rn d' r.1 0 (am_en r.1 r.2.1) [] h with
                  | none => rw [hc] at hR; cases hR
                  | some x =>
                    rw [hc] at hR
                    obtain ⟨n1, h1⟩ := rn_iff.mp hc
                    obtain ⟨n2, h2⟩ := rn_iff.mp hR
                    refine ⟨max n1 n2, ?_⟩
                    rw [am_run_le (Nat.le_max_left n1 n2) h1]
                    exact am_run_le (Nat.le_max_right n1 n2) h2
      obtain ⟨n, hn⟩ := this
      exact rn_iff.mpr ⟨n + 1, hn⟩
  cases h1 : am_bd rn d y pc lc st h with
  | some R => exact (key R).mpr h1
  | none =>
    cases h2 : rn d y pc lc st h with
    | none => rfl
    | some R => rw [(key R).mp h2] at h1; cases h1
section RNL
variable {d y pc len : Nat} {lc : am_L} {st : List Value} {h : am_H} {q : am_M} {i : Instr}
theorem rn_nx {pc' : Nat} {lc' : am_L} {st' : List Value} {h' : am_H} (hq : am_ms[y]? = some q) (hd : decode q.2.1 pc = .ok (i, len)) (hg : am_go q i len pc lc st h = some (.inl (pc', lc', st', h'))) : rn d y pc lc st h = rn d y pc' lc' st' h' := by
  rw [rn_eq]
  simp only [am_bd, hq, hd, hg]
theorem rn_rt {r : Option Value} (hq : am_ms[y]? = some q) (hd : decode q.2.1 pc = .ok (i, len)) (hg : am_go q i len pc lc st h = some (.inr (.inl r))) : rn d y pc lc st h = some (r, h) := by
  rw [rn_eq]
  simp only [am_bd, hq, hd, hg]
theorem rn_no (hq : am_ms[y]? = some q) (hd : decode q.2.1 pc = .ok (i, len)) (hg : am_go q i len pc lc st h = none) : rn d y pc lc st h = none := by
  rw [rn_eq]
  simp only [am_bd, hq, hd, hg]
theorem rn_ca {y' : Nat} {as rest : List Value} (hq : am_ms[y]? = some q) (hd : decode q.2.1 pc = .ok (i, len)) (hg : am_go q i len pc lc st h = some (.inr (.inr (y', as, rest)))) : rn (d + 1) y pc lc st h = (rn d y' 0 (am_en y' as) [] h).bind (fun x => rn (d + 1) y (pc + 3) lc (x.1.toList ++ rest) x.2) := by
  rw [rn_eq]
  simp only [am_bd, hq, hd, hg]
  cases rn d y' 0 (am_en y' as) [] h <;> rfl
end RNL
