/-! ===== methods by their numbers; what a program checks of a method's list ===== -/
/-- name, code, places, what it returns, its list, (sort: 0 an object's, 1 static, 2 a maker; class; arguments), (cells, slots) -/
abbrev mj_T : Type := MethodName × ByteArray × Nat × Option FieldType × List mj_E × (Nat × Nat × Nat) × (Nat × Nat)
def mj_pc (full : List mj_E) (i : Nat) : Nat := match full[i]? with
  | some x => x.2.1
  | none => 0
def mj_len (i : Instr) : Nat := match i with
  | .iload _ => 2
  | .lload _ => 2
  | .aload _ => 2
  | .istore _ => 2
  | .lstore _ => 2
  | .astore _ => 2
  | .iinc _ _ => 3
  | .bipush _ => 2
  | .sipush _ => 3
  | .ldc _ => 2
  | .ldc2_w _ => 3
  | .ifCond _ _ => 3
  | .if_acmp _ _ => 3
  | .getstatic _ => 3
  | .putstatic _ => 3
  | .ldc_w _ => 3
  | .checkcast _ => 3
  | .if_icmp _ _ => 3
  | .ifnull _ => 3
  | .ifnonnull _ => 3
  | .goto _ => 3
  | .getfield _ => 3
  | .putfield _ => 3
  | .newarray _ => 2
  | .multianewarray _ _ => 4
  | .new _ => 3
  | .anewarray _ => 3
  | .invokevirtual _ => 3
  | .invokestatic _ => 3
  | .invokespecial _ => 3
  | _ => 1
/-- a switch says its length itself -/
def mj_lx (x : mj_E) : Nat := match x.1 with
  | .tableswitch _ _ _ _ => x.2.2.2.toNat
  | i => mj_len i
/-- a switch's targets, place by place -/
def mj_ct (full : List mj_E) (pc : Int) : List Int → List Nat → Bool
  | [], [] => true
  | o :: os, t :: ts => decide (pc + o = (mj_pc full t : Int)) && mj_ct full pc os ts
  | _, _ => false
def mj_cls (ci : Nat) : String := cond (Nat.beq ci 49) RX9 (vwCl.getD ci (RX0, TX0, 0)).1
def mj_wf (k : Nat) : String × String := match k with
  | 0 => ("code", "J")
  | _ => ("what", "I")
def mj_wg (k : Nat) : String × String := cond (Nat.blt k 24) (mj_wn.getD k "", "LRentRiver$Word;") ("ALL", "[LRentRiver$Word;")
theorem mj_cls_lt {ci : Nat} (h : ci < 12) : mj_cls ci = (vwCl.getD ci (RX0, TX0, 0)).1 := by
  have hb : Nat.beq ci 49 = false := by
    cases hq : Nat.beq ci 49 with
    | true => exact absurd (Nat.eq_of_beq_eq_true hq) (by omega)
    | false => rfl
  unfold mj_cls
  rw [hb]
  rfl
def mj_fld (ci k : Nat) : String × String × String × Bool := (vwCl.getD ci (RX0, TX0, 0)).2.1 k
def mj_num (ci : Nat) : Nat := (vwCl.getD ci (RX0, TX0, 0)).2.2
/-- what is checked of one row -/
def mj_cx (T : Nat → mj_T) (own : String) (ret : Option FieldType) (nL : Nat) (ini : Bool) (full : List mj_E) (x : mj_E) : Bool := match x.1 with
  | .istore_n k => decide (k.val < nL)
  | .istore k => decide (k < nL)
  | .astore_n k => decide (k.val < nL)
  | .astore k => decide (k < nL)
  | .lstore_n k => decide (k.val + 1 < nL)
  | .lstore k => decide (k + 1 < nL)
  | .iinc k _ => decide (k < nL)
  | .iconst z => decide (-2147483648 ≤ z ∧ z < 2147483648)
  | .bipush z => decide (-2147483648 ≤ z ∧ z < 2147483648) && decide ((Int8.ofInt z).toInt32 = Int32.ofInt z)
  | .sipush z => decide (-2147483648 ≤ z ∧ z < 2147483648) && decide ((Int16.ofInt z).toInt32 = Int32.ofInt z)
  | .ldc i => decide (-2147483648 ≤ x.2.2.2 ∧ x.2.2.2 < 2147483648) && decide (mj_wi (mj_hd x.2.2.1) = Cond.constant own i (Int32.ofInt x.2.2.2))
  | .ldc_w i => decide (-2147483648 ≤ x.2.2.2 ∧ x.2.2.2 < 2147483648) && decide (mj_wi (mj_hd x.2.2.1) = Cond.constant own i (Int32.ofInt x.2.2.2))
  | .if_acmp _ off => decide ((x.2.1 : Int) + off = (mj_pc full (mj_hd x.2.2.1) : Int))
  | .getstatic i => x.2.2.1.isEmpty || decide (mj_wi (mj_h1 x.2.2.1) = Cond.fieldLink own i RX9 (mj_wg (mj_hd x.2.2.1)).1 (mj_wg (mj_hd x.2.2.1)).2)
  | .areturn => decide (ret = some (.object "RentRiver$Word"))
  | .ldc2_w i => decide (mj_wi (mj_hd x.2.2.1) = Cond.constantLong own i (Int64.ofInt x.2.2.2))
  | .ifCond _ off => decide ((x.2.1 : Int) + off = (mj_pc full (mj_hd x.2.2.1) : Int))
  | .if_icmp _ off => decide ((x.2.1 : Int) + off = (mj_pc full (mj_hd x.2.2.1) : Int))
  | .ifnull off => decide ((x.2.1 : Int) + off = (mj_pc full (mj_hd x.2.2.1) : Int))
  | .ifnonnull off => decide ((x.2.1 : Int) + off = (mj_pc full (mj_hd x.2.2.1) : Int))
  | .goto off => decide ((x.2.1 : Int) + off = (mj_pc full (mj_hd x.2.2.1) : Int))
  | .getfield i => x.2.2.1.isEmpty || cond (Nat.beq (mj_hd x.2.2.1) 49) (decide (mj_wi (mj_h2 x.2.2.1) = Cond.fieldLink own i RX9 (mj_wf (mj_h1 x.2.2.1)).1 (mj_wf (mj_h1 x.2.2.1)).2)) (decide (mj_hd x.2.2.1 < 12) && decide (mj_h1 x.2.2.1 < mj_num (mj_hd x.2.2.1)) && decide (mj_wi (mj_h2 x.2.2.1) = Cond.fieldLink own i (mj_fld (mj_hd x.2.2.1) (mj_h1 x.2.2.1)).1 (mj_fld (mj_hd x.2.2.1) (mj_h1 x.2.2.1)).2.1 (mj_fld (mj_hd x.2.2.1) (mj_h1 x.2.2.1)).2.2.1))
  | .putfield i => x.2.2.1.isEmpty || decide (mj_hd x.2.2.1 < 12) && decide (mj_h1 x.2.2.1 < mj_num (mj_hd x.2.2.1)) && decide (mj_wi (mj_h2 x.2.2.1) = Cond.fieldLink own i (mj_fld (mj_hd x.2.2.1) (mj_h1 x.2.2.1)).1 (mj_fld (mj_hd x.2.2.1) (mj_h1 x.2.2.1)).2.1 (mj_fld (mj_hd x.2.2.1) (mj_h1 x.2.2.1)).2.2.1) && (!(mj_fld (mj_hd x.2.2.1) (mj_h1 x.2.2.1)).2.2.2 || (ini && decide ((mj_fld (mj_hd x.2.2.1) (mj_h1 x.2.2.1)).1 = own)))
  | .aaload => decide (mj_hd x.2.2.1 < 7) && decide ((mj_at (mj_hd x.2.2.1)).isReference = true) && decide (mj_as (mj_hd x.2.2.1) = 2)
  | .newarray a => decide (mj_hd x.2.2.1 < 4) && decide (newarray.typeOf a = mj_at (mj_hd x.2.2.1)) && decide (mj_wi (mj_h1 x.2.2.1) = Cond.arrayClass (mj_at (mj_hd x.2.2.1)))
  | .multianewarray i d => decide (d = 2) && decide (mj_wi (mj_hd x.2.2.1) = Cond.classLink own i ("[" ++ (FieldType.array .int).toString))
  | .anewarray i => decide (mj_hd x.2.2.1 = 5 ∨ mj_hd x.2.2.1 = 6) && decide (mj_wi (mj_h1 x.2.2.1) = Cond.classLink own i (mj_cn (mj_hd x.2.2.1)))
  | .aastore => decide (mj_hd x.2.2.1 = 5 ∨ mj_hd x.2.2.1 = 6)
  | .tableswitch df lo hi offs => decide ((x.2.1 : Int) + df = (mj_pc full (mj_hd x.2.2.1) : Int)) && decide (((x.2.2.1.drop 1).length : Int) = hi - lo + 1) && mj_ct full x.2.1 offs.toList (x.2.2.1.drop 1)
  | .new i => x.2.2.1.isEmpty || decide (mj_hd x.2.2.1 < 12) && decide (mj_wi (mj_h2 x.2.2.1) = Cond.classLink own i (mj_cls (mj_hd x.2.2.1))) && decide (mj_wi (mj_h3 x.2.2.1) = Cond.instantiable (mj_cls (mj_hd x.2.2.1)) (mj_h1 x.2.2.1)) && decide (mj_wi (mj_h4 x.2.2.1) = Cond.initialized (mj_cls (mj_hd x.2.2.1)))
  | .invokevirtual i => x.2.2.1.isEmpty || decide ((T (mj_hd x.2.2.1)).2.2.2.2.2.1 = (0, mj_h2 x.2.2.1, mj_h1 x.2.2.1)) && decide (mj_h2 x.2.2.1 < 12 ∨ mj_h2 x.2.2.1 = 49) && decide (mj_wi (mj_h3 x.2.2.1) = Cond.methodLink own i (T (mj_hd x.2.2.1)).1)
  | .invokestatic i => match x.2.2.1 with
    | [0, w] => decide (mj_wi w = Cond.methodLink own i Lib.Math.max.name)
    | [1, w] => decide (mj_wi w = Cond.methodLink own i Lib.Math.min.name)
    | [2, w] => decide (mj_wi w = Cond.methodLink own i Lib.Math.abs.name)
    | [_, w] => decide (mj_wi w = Cond.methodLink own i arraycopyName)
    | [] => true
    | _ => decide ((T (mj_hd x.2.2.1)).2.2.2.2.2.1.1 = 1) && decide ((T (mj_hd x.2.2.1)).2.2.2.2.2.1.2.2 = mj_h1 x.2.2.1) && decide (mj_wi (mj_h3 x.2.2.1) = Cond.methodLink own i (T (mj_hd x.2.2.1)).1)
  | .invokespecial i => match x.2.2.1 with
    | [] => decide (mj_wi x.2.2.2.toNat = Cond.methodLink own i objectInit)
    | y :: _ => decide ((T y).2.2.2.2.2.1 = (2, mj_h2 x.2.2.1, mj_h1 x.2.2.1)) && decide (mj_wi (mj_h3 x.2.2.1) = Cond.methodLink own i (T y).1)
  | .ireturn => decide ((x.2.2.2 = 0 ∧ ret = some .int) ∨ (x.2.2.2 = 1 ∧ ret = some .boolean))
  | .return_ => decide (ret = none)
  | _ => true
def mj_ends (i : Instr) : Bool := match i with
  | .goto _ => true
  | .tableswitch _ _ _ _ => true
  | .ireturn => true
  | .areturn => true
  | .lreturn => true
  | .athrow => true
  | .return_ => true
  | _ => false
def mj_cb (T : Nat → mj_T) (own : String) (ret : Option FieldType) (nL : Nat) (ini : Bool) (cc : ByteArray) (full : List mj_E) (i : Nat) (x : mj_E) : Bool :=
  decide (decode cc x.2.1 = .ok (x.1, mj_lx x)) && (mj_ends x.1 || decide (mj_pc full (i + 1) = x.2.1 + mj_lx x)) && mj_cx T own ret nL ini full x
def mj_ca (T : Nat → mj_T) (own : String) (ret : Option FieldType) (nL : Nat) (ini : Bool) (cc : ByteArray) (full : List mj_E) : Nat → List mj_E → Bool
  | _, [] => true
  | i, x :: t => mj_cb T own ret nL ini cc full i x && mj_ca T own ret nL ini cc full (i + 1) t
theorem mj_ct_at {full : List mj_E} {pc : Int} : ∀ (os : List Int) (ts : List Nat), mj_ct full pc os ts = true → ∀ (k t : Nat), ts[k]? = some t → ∃ o, os[k]? = some o ∧ pc + o = (mj_pc full t : Int)
  | [], [], _, k, t, h => by simp at h
  | [], _ :: _, h, _, _, _ => by cases h
  | _ :: _, [], h, _, _, _ => by cases h
  | o :: os, t' :: ts, h, 0, t, hk => by
    obtain rfl : t' = t := by simpa using hk
    unfold mj_ct at h
    rw [Bool.and_eq_true] at h
    exact ⟨o, rfl, of_decide_eq_true h.1⟩
  | o :: os, t' :: ts, h, k + 1, t, hk => by
    unfold mj_ct at h
    rw [Bool.and_eq_true] at h
    obtain ⟨o', h1, h2⟩ := mj_ct_at os ts h.2 k t (by simpa using hk)
    exact ⟨o', by simpa using h1, h2⟩
theorem mj_ca_at {T : Nat → mj_T} {own : String} {ret : Option FieldType} {nL : Nat} {ini : Bool} {cc : ByteArray} {full : List mj_E} : ∀ (l : List mj_E) (i j : Nat) (x : mj_E), mj_ca T own ret nL ini cc full i l = true → l[j]? = some x → mj_cb T own ret nL ini cc full (i + j) x = true
  | [], _, _, _, _, h => by simp at h
  | y :: t, i, 0, x, h, hx => by
    obtain rfl : y = x := by simpa using hx
    exact (Bool.and_eq_true _ _ ▸ h : _ ∧ _).1
  | y :: t, i, j + 1, x, h, hx => by
    have := mj_ca_at t (i + 1) j x (Bool.and_eq_true _ _ ▸ h : _ ∧ _).2 (by simpa using hx)
    rw [show i + 1 + j = i + (j + 1) by omega] at this
    exact this
/-- what is checked of a method's words -/
def mj_cm (q : mj_T) : Bool := decide (Cond.code q.1 q.2.1 q.2.2.1 q.2.2.2.1 ∈ mj_tb) && decide (Cond.initialized q.1.cls ∈ mj_tb) && decide (q.1.cls ≠ "java/lang/invoke/MethodHandle") && decide (q.1.cls ≠ "java/lang/invoke/VarHandle") && decide ((parseMethodDescriptor q.1.desc).map (fun d => d.parameters.length) = some q.2.2.2.2.2.1.2.2) && decide (plainName q.1.cls = true) && decide (q.2.2.1 ≤ 80) &&
  (match q.2.2.2.2.2.1.1 with
  | 0 => decide (q.1.cls = mj_cls q.2.2.2.2.2.1.2.1) && decide (Cond.instanceMethod q.1 ∈ mj_tb) && decide (Cond.selects q.1.cls q.1 q.1 ∈ mj_tb)
  | 1 => decide (Cond.static q.1 ∈ mj_tb)
  | _ => decide (q.1.cls = mj_cls q.2.2.2.2.2.1.2.1) && decide (Cond.instanceMethod q.1 ∈ mj_tb) && decide (q.1.name = "<init>") && decide (q.2.2.2.1 = none))
def mj_ok1 (T : Nat → mj_T) (q : mj_T) : Bool := mj_cm q && mj_ca T q.1.cls q.2.2.2.1 q.2.2.1 (decide (q.1.name = "<init>")) q.2.1 q.2.2.2.2.1 0 q.2.2.2.2.1 && decide (mj_pc q.2.2.2.2.1 0 = 0)
def mj_wd : List mj_V → Nat
  | [] => 0
  | .inr (.inl _) :: t => 2 + mj_wd t
  | _ :: t => 1 + mj_wd t
/-- the places at a method's start -/
def mj_en : List mj_V → Nat → mj_L
  | [], n => List.replicate n none
  | .inr (.inl w) :: t, n => some (.inr (.inl w)) :: none :: mj_en t (n - 2)
  | .inl z :: t, n => some (.inl z) :: mj_en t (n - 1)
  | .inr (.inr r) :: t, n => some (.inr (.inr r)) :: mj_en t (n - 1)
/-- a method, called no deeper than d, comes to an end with Q -/
def mj_R (T : Nat → mj_T) : Nat → mj_C
  | 0 => fun _ _ _ _ _ => False
  | d + 1 => fun y av G M Q => mj_wd av ≤ (T y).2.2.1 ∧ mj_W (fun y => (T y).2.2.2.2.2.2) (mj_R T d) (T y).2.2.2.2.1 Q (T y).2.2.2.2.1 (mj_en av (T y).2.2.1) [] G M (T y).2.2.2.2.2.2.1 (T y).2.2.2.2.2.2.2
theorem mj_en_asc : ∀ (av : List mj_V) (n i : Nat), mj_asc i (mj_en av n) = lv_args i (av.map mj_val)
  | [], n, i => by
    show mj_asc i (List.replicate n none) = []
    induction n generalizing i with
    | zero => rfl
    | succ n ih => exact ih (i + 1)
  | .inr (.inl w) :: t, n, i => by
    show (i, Value.long w) :: mj_asc (i + 1 + 1) (mj_en t (n - 2)) = (i, Value.long w) :: lv_args (i + 2) (t.map mj_val)
    rw [mj_en_asc t]
  | .inl z :: t, n, i => by
    show (i, Value.int (Int32.ofInt z)) :: mj_asc (i + 1) (mj_en t (n - 1)) = (i, Value.int (Int32.ofInt z)) :: lv_args (i + 1) (t.map mj_val)
    rw [mj_en_asc t]
  | .inr (.inr none) :: t, n, i => by
    show (i, Value.null) :: mj_asc (i + 1) (mj_en t (n - 1)) = (i, Value.null) :: lv_args (i + 1) (t.map mj_val)
    rw [mj_en_asc t]
  | .inr (.inr (some a)) :: t, n, i => by
    show (i, Value.ref a) :: mj_asc (i + 1) (mj_en t (n - 1)) = (i, Value.ref a) :: lv_args (i + 1) (t.map mj_val)
    rw [mj_en_asc t]
theorem mj_en_len : ∀ (av : List mj_V) (n : Nat), mj_wd av ≤ n → (mj_en av n).length = n
  | [], n, _ => by simp [mj_en]
  | .inr (.inl w) :: t, n, h => by
    have h : 2 + mj_wd t ≤ n := h
    show (mj_en t (n - 2)).length + 1 + 1 = n
    rw [mj_en_len t (n - 2) (by omega)]; omega
  | .inl z :: t, n, h => by
    have h : 1 + mj_wd t ≤ n := h
    show (mj_en t (n - 1)).length + 1 = n
    rw [mj_en_len t (n - 1) (by omega)]; omega
  | .inr (.inr r) :: t, n, h => by
    have h : 1 + mj_wd t ≤ n := h
    show (mj_en t (n - 1)).length + 1 = n
    rw [mj_en_len t (n - 1) (by omega)]; omega
theorem mj_wd_eq : ∀ av : List mj_V, (lg_sl (av.map mj_val)).length = mj_wd av
  | [] => rfl
  | .inr (.inl w) :: t => by
    have := mj_wd_eq t
    show (([Slot.val (Value.long w), Slot.second] : List Slot) ++ lg_sl (t.map mj_val)).length = 2 + mj_wd t
    rw [List.length_append, this]; rfl
  | .inl z :: t => by
    have := mj_wd_eq t
    show (([Slot.val (Value.int (Int32.ofInt z))] : List Slot) ++ lg_sl (t.map mj_val)).length = 1 + mj_wd t
    rw [List.length_append, this]; rfl
  | .inr (.inr none) :: t => by
    have := mj_wd_eq t
    show (([Slot.val Value.null] : List Slot) ++ lg_sl (t.map mj_val)).length = 1 + mj_wd t
    rw [List.length_append, this]; rfl
  | .inr (.inr (some a)) :: t => by
    have := mj_wd_eq t
    show (([Slot.val (Value.ref a)] : List Slot) ++ lg_sl (t.map mj_val)).length = 1 + mj_wd t
    rw [List.length_append, this]; rfl
theorem mj_en_ok : ∀ (av : List mj_V) (n : Nat) (j : Nat) (v : mj_V), (∀ w ∈ av, mj_ok w) → mj_nt (mj_en av n) j = some v → mj_ok v
  | [], n, j, v, _, h => by
    have : ∀ (n j : Nat), mj_nt (List.replicate n none) j = none := by
      intro n
      induction n with
      | zero => intro j; rfl
      | succ n ih =>
        intro j
        cases j with
        | zero => rfl
        | succ j => exact ih j
    rw [show mj_en [] n = List.replicate n none from rfl, this] at h
    cases h
  | .inr (.inl w) :: t, n, 0, v, _, h => by cases h; trivial
  | .inr (.inl w) :: t, n, 1, v, _, h => by cases h
  | .inr (.inl w) :: t, n, j + 2, v, ha, h => mj_en_ok t (n - 2) j v (mj_tl ha) h
  | .inl z :: t, n, 0, v, ha, h => by cases h; exact mj_head ha
  | .inl z :: t, n, j + 1, v, ha, h => mj_en_ok t (n - 1) j v (mj_tl ha) h
  | .inr (.inr r) :: t, n, 0, v, _, h => by cases h; trivial
  | .inr (.inr r) :: t, n, j + 1, v, ha, h => mj_en_ok t (n - 1) j v (mj_tl ha) h
