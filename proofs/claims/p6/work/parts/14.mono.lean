/-! ===== the small machine's step grows with what goes on behind it ===== -/
theorem mj_pop_m : ∀ (n : Nat) (acc st : List mj_V) {k k' : List mj_V → List mj_V → Prop}, (∀ a t, k a t → k' a t) → mj_pop n acc st k → mj_pop n acc st k'
  | 0, acc, st, _, _, hk, h => hk acc st h
  | n + 1, acc, [], _, _, _, h => h
  | n + 1, acc, v :: st, _, _, hk, h => mj_pop_m n (v :: acc) st hk h
theorem mj_sw_m {z : Int} {k k' : Nat → Prop} (hk : ∀ t, k t → k' t) : ∀ (ts : List Nat) (v : Int), mj_sw z k v ts → mj_sw z k' v ts
  | [], _, _ => trivial
  | t :: ts, v, h => ⟨fun q => hk t (h.1 q), mj_sw_m hk ts (v + 1) h.2⟩
theorem mj_a1_m {st : List mj_V} {k k' : Nat → List mj_V → Prop} (hk : ∀ a t, k a t → k' a t) (h : mj_a1 st k) : mj_a1 st k' := by
  obtain ⟨a, t, rfl, h⟩ := mj_a1_e h
  exact hk a t h
theorem mj_i1_m {st : List mj_V} {k k' : Int → List mj_V → Prop} (hk : ∀ a t, k a t → k' a t) (h : mj_i1 st k) : mj_i1 st k' := by
  obtain ⟨a, t, rfl, h⟩ := mj_i1_e h
  exact hk a t h
theorem mj_l1_m {st : List mj_V} {k k' : Int64 → List mj_V → Prop} (hk : ∀ a t, k a t → k' a t) (h : mj_l1 st k) : mj_l1 st k' := by
  obtain ⟨a, t, rfl, h⟩ := mj_l1_e h
  exact hk a t h
theorem mj_r1_m {st : List mj_V} {k k' : Option Nat → List mj_V → Prop} (hk : ∀ a t, k a t → k' a t) (h : mj_r1 st k) : mj_r1 st k' := by
  obtain ⟨a, t, rfl, h⟩ := mj_r1_e h
  exact hk a t h
theorem mj_ald_m {j : Nat} {st : List mj_V} {G : mj_G} {k k' : Nat → Nat → List mj_V → Prop} (hk : ∀ a i t, k a i t → k' a i t) (h : mj_ald j st G k) : mj_ald j st G k' := by
  obtain ⟨i, a, st', t, n, rfl, h1, h2, h3, h4, h5⟩ := mj_ald_e h
  exact ⟨t, n, h1, h2, h3, h4, hk _ _ _ h5⟩
theorem mj_aldw_m {j : Nat} {st : List mj_V} {G : mj_G} {k k' : Nat → Nat → List mj_V → Prop} (hk : ∀ a i t, k a i t → k' a i t) (h : mj_aldw j st G k) : mj_aldw j st G k' := by
  obtain ⟨i, a, st', t, n, rfl, h1, h2, h9, h3, h4, h5⟩ := mj_aldw_e h
  exact ⟨t, n, h1, h2, h9, h3, h4, hk _ _ _ h5⟩
theorem mj_cpy_m {j : Nat} {st : List mj_V} {G : mj_G} {k k' : Nat → Nat → Nat → Nat → Nat → List mj_V → Prop} (hk : ∀ a b c d e t, k a b c d e t → k' a b c d e t) (h : mj_cpy j st G k) : mj_cpy j st G k' := by
  obtain ⟨nn, st, rfl, u1⟩ := mj_i1_e h
  obtain ⟨dp, st, rfl, u2⟩ := mj_i1_e u1
  obtain ⟨b, st, rfl, u3⟩ := mj_a1_e u2
  obtain ⟨sp, st, rfl, u4⟩ := mj_i1_e u3
  obtain ⟨a, st, rfl, ta, na, hGa, hta, tb, nb, hGb, htb, h9, h1, h2, h3, h4, h5, h8, u5⟩ := mj_a1_e u4
  exact ⟨ta, na, hGa, hta, tb, nb, hGb, htb, h9, h1, h2, h3, h4, h5, h8, hk _ _ _ _ _ _ u5⟩
theorem mj_lib_m {f : Nat} {st : List mj_V} {G : mj_G} {M : mj_M} {k k' : List mj_V → mj_M → Prop} (hk : ∀ t M, k t M → k' t M) (h : mj_lib f st G M k) : mj_lib f st G M k' := by
  match f, h with
  | 0, h => exact mj_i1_m (fun _ _ h => mj_i1_m (fun _ _ h => ⟨h.1, fun z a b => hk _ _ (h.2 z a b)⟩) h) h
  | 1, h => exact mj_i1_m (fun _ _ h => mj_i1_m (fun _ _ h => ⟨h.1, fun z a b => hk _ _ (h.2 z a b)⟩) h) h
  | 2, h => exact mj_i1_m (fun _ _ h => ⟨h.1, fun z a b c => hk _ _ (h.2 z a b c)⟩) h
  | 3, h => exact mj_cpy_m (k := fun a b sp dp n st => k st (mj_cp0 M a b sp dp n)) (k' := fun a b sp dp n st => k' st (mj_cp0 M a b sp dp n)) (fun _ _ _ _ _ _ h => hk _ _ h) h
  | 4, h => exact mj_cpy_m (k := fun a b sp dp n st => k st (mj_cp1 M a b sp dp n)) (k' := fun a b sp dp n st => k' st (mj_cp1 M a b sp dp n)) (fun _ _ _ _ _ _ h => hk _ _ h) h
  | n + 5, h => exact h.elim
def mj_mo (C : mj_C) : Prop := ∀ y av G M R R', (∀ r G M, R r G M → R' r G M) → C y av G M R → C y av G M R'
set_option maxHeartbeats 4000000 in
theorem mj_x_m {mcs : Nat → Nat × Nat} {C : mj_C} {full : List mj_E} {Q Q' : mj_P} {K K' : mj_S} (hC : mj_mo C) (hQ : ∀ r G M, Q r G M → Q' r G M) (hK : ∀ rest L st G M cb sb, K rest L st G M cb sb → K' rest L st G M cb sb) :
    ∀ (n : Nat) (rest : List mj_E) (L : mj_L) (st : List mj_V) (G : mj_G) (M : mj_M) (cb sb : Nat), mj_x mcs C full Q K n rest L st G M cb sb → mj_x mcs C full Q' K' n rest L st G M cb sb := by
  intro n
  induction n with
  | zero => intro rest L st G M cb sb h; exact hK _ _ _ _ _ _ _ h
  | succ n ih =>
    intro rest L st G M cb sb h
    cases rest with
    | nil => exact h
    | cons x rest =>
      obtain ⟨ins, pc, aux, imm⟩ := x
      cases ins
      case iload_n k =>
        have h : mj_ldi L k.val (fun v => mj_x mcs C full Q K n rest L (v :: st) G M cb sb) := h
        obtain ⟨z, h1, h2⟩ := mj_ldi_e h
        show mj_ldi L k.val (fun v => mj_x mcs C full Q' K' n rest L (v :: st) G M cb sb)
        unfold mj_ldi
        rw [h1]
        exact ih _ _ _ _ _ _ _ h2
      case iload k =>
        have h : mj_ldi L k (fun v => mj_x mcs C full Q K n rest L (v :: st) G M cb sb) := h
        obtain ⟨z, h1, h2⟩ := mj_ldi_e h
        show mj_ldi L k (fun v => mj_x mcs C full Q' K' n rest L (v :: st) G M cb sb)
        unfold mj_ldi
        rw [h1]
        exact ih _ _ _ _ _ _ _ h2
      case lload_n k =>
        have h : mj_ldl L k.val (fun v => mj_x mcs C full Q K n rest L (v :: st) G M cb sb) := h
        obtain ⟨z, h1, h2⟩ := mj_ldl_e h
        show mj_ldl L k.val (fun v => mj_x mcs C full Q' K' n rest L (v :: st) G M cb sb)
        unfold mj_ldl
        rw [h1]
        exact ih _ _ _ _ _ _ _ h2
      case lload k =>
        have h : mj_ldl L k (fun v => mj_x mcs C full Q K n rest L (v :: st) G M cb sb) := h
        obtain ⟨z, h1, h2⟩ := mj_ldl_e h
        show mj_ldl L k (fun v => mj_x mcs C full Q' K' n rest L (v :: st) G M cb sb)
        unfold mj_ldl
        rw [h1]
        exact ih _ _ _ _ _ _ _ h2
      case aload_n k =>
        have h : mj_lda L k.val (fun v => mj_x mcs C full Q K n rest L (v :: st) G M cb sb) := h
        obtain ⟨z, h1, h2⟩ := mj_lda_e h
        show mj_lda L k.val (fun v => mj_x mcs C full Q' K' n rest L (v :: st) G M cb sb)
        unfold mj_lda
        rw [h1]
        exact ih _ _ _ _ _ _ _ h2
      case aload k =>
        have h : mj_lda L k (fun v => mj_x mcs C full Q K n rest L (v :: st) G M cb sb) := h
        obtain ⟨z, h1, h2⟩ := mj_lda_e h
        show mj_lda L k (fun v => mj_x mcs C full Q' K' n rest L (v :: st) G M cb sb)
        unfold mj_lda
        rw [h1]
        exact ih _ _ _ _ _ _ _ h2
      case istore_n k =>
        obtain ⟨z, t, rfl, h2⟩ := mj_i1_e h
        exact ih _ _ _ _ _ _ _ h2
      case istore k =>
        obtain ⟨z, t, rfl, h2⟩ := mj_i1_e h
        exact ih _ _ _ _ _ _ _ h2
      case lstore_n k =>
        obtain ⟨z, t, rfl, h2⟩ := mj_l1_e h
        exact ih _ _ _ _ _ _ _ h2
      case lstore k =>
        obtain ⟨z, t, rfl, h2⟩ := mj_l1_e h
        exact ih _ _ _ _ _ _ _ h2
      case astore_n k =>
        obtain ⟨z, t, rfl, h2⟩ := mj_r1_e h
        exact ih _ _ _ _ _ _ _ h2
      case astore k =>
        obtain ⟨z, t, rfl, h2⟩ := mj_r1_e h
        exact ih _ _ _ _ _ _ _ h2
      case iinc k c =>
        have h : mj_ldi L k (fun v => mj_i1 [v] fun z _ => (mj_in (z + c) ∧ mj_x mcs C full Q K n rest (mj_s1 L k (.inl (z + c))) st G M cb sb) ∨ ∀ q, mj_in q → q = (Int32.ofInt z + Int32.ofInt c).toInt → mj_x mcs C full Q K n rest (mj_s1 L k (.inl q)) st G M cb sb) := h
        obtain ⟨z, h1, h2⟩ := mj_ldi_e h
        show mj_ldi L k (fun v => mj_i1 [v] fun z _ => (mj_in (z + c) ∧ mj_x mcs C full Q' K' n rest (mj_s1 L k (.inl (z + c))) st G M cb sb) ∨ ∀ q, mj_in q → q = (Int32.ofInt z + Int32.ofInt c).toInt → mj_x mcs C full Q' K' n rest (mj_s1 L k (.inl q)) st G M cb sb)
        unfold mj_ldi
        rw [h1]
        have h2 : (mj_in (z + c) ∧ _) ∨ _ := h2
        exact h2.imp (fun q => ⟨q.1, ih _ _ _ _ _ _ _ q.2⟩) (fun q w a b => ih _ _ _ _ _ _ _ (q w a b))
      case iconst z =>
        exact ih _ _ _ _ _ _ _ h
      case bipush z =>
        exact ih _ _ _ _ _ _ _ h
      case sipush z =>
        exact ih _ _ _ _ _ _ _ h
      case ldc z =>
        exact ih _ _ _ _ _ _ _ h
      case ldc2_w z =>
        exact ih _ _ _ _ _ _ _ h
      case lconst z =>
        exact ih _ _ _ _ _ _ _ h
      case aconst_null =>
        exact ih _ _ _ _ _ _ _ h
      case goto z =>
        exact ih _ _ _ _ _ _ _ h
      case iadd =>
        obtain ⟨y, t, rfl, u1⟩ := mj_i1_e h
        obtain ⟨x, t, rfl, u2⟩ := mj_i1_e u1
        rcases u2 with ⟨h1, h2⟩ | h2
        · exact Or.inl ⟨h1, ih _ _ _ _ _ _ _ h2⟩
        · exact Or.inr (fun z hz hz2 => ih _ _ _ _ _ _ _ (h2 z hz hz2))
      case isub =>
        obtain ⟨y, t, rfl, u1⟩ := mj_i1_e h
        obtain ⟨x, t, rfl, u2⟩ := mj_i1_e u1
        rcases u2 with ⟨h1, h2⟩ | h2
        · exact Or.inl ⟨h1, ih _ _ _ _ _ _ _ h2⟩
        · exact Or.inr (fun z hz hz2 => ih _ _ _ _ _ _ _ (h2 z hz hz2))
      case imul =>
        obtain ⟨y, t, rfl, u1⟩ := mj_i1_e h
        obtain ⟨x, t, rfl, u2⟩ := mj_i1_e u1
        rcases u2 with ⟨h1, h2⟩ | h2
        · exact Or.inl ⟨h1, ih _ _ _ _ _ _ _ h2⟩
        · exact Or.inr (fun z hz hz2 => ih _ _ _ _ _ _ _ (h2 z hz hz2))
      case iand =>
        obtain ⟨y, t, rfl, u1⟩ := mj_i1_e h
        obtain ⟨x, t, rfl, u2⟩ := mj_i1_e u1
        exact fun z hz hz2 => ih _ _ _ _ _ _ _ (u2 z hz hz2)
      case ior =>
        obtain ⟨y, t, rfl, u1⟩ := mj_i1_e h
        obtain ⟨x, t, rfl, u2⟩ := mj_i1_e u1
        exact fun z hz hz2 => ih _ _ _ _ _ _ _ (u2 z hz hz2)
      case ishl =>
        obtain ⟨y, t, rfl, u1⟩ := mj_i1_e h
        obtain ⟨x, t, rfl, u2⟩ := mj_i1_e u1
        exact fun z hz hz2 => ih _ _ _ _ _ _ _ (u2 z hz hz2)
      case ishr =>
        obtain ⟨y, t, rfl, u1⟩ := mj_i1_e h
        obtain ⟨x, t, rfl, u2⟩ := mj_i1_e u1
        exact fun z hz hz2 => ih _ _ _ _ _ _ _ (u2 z hz hz2)
      case iushr =>
        obtain ⟨y, t, rfl, u1⟩ := mj_i1_e h
        obtain ⟨x, t, rfl, u2⟩ := mj_i1_e u1
        exact fun z hz hz2 => ih _ _ _ _ _ _ _ (u2 z hz hz2)
      case ineg =>
        obtain ⟨x, t, rfl, u2⟩ := mj_i1_e h
        exact fun z hz hz2 => ih _ _ _ _ _ _ _ (u2 z hz hz2)
      case i2b =>
        obtain ⟨x, t, rfl, u2⟩ := mj_i1_e h
        exact fun z hz hz2 => ih _ _ _ _ _ _ _ (u2 z hz hz2)
      case dup =>
        have h : mj_c1 st (fun v st => mj_x mcs C full Q K n rest L (v :: v :: st) G M cb sb) := h
        obtain ⟨v, t, rfl, h1, h2⟩ := mj_c1_e h
        rcases v with z | z | z
        · exact ih _ _ _ _ _ _ _ h2
        · exact absurd rfl (h1 z)
        · exact ih _ _ _ _ _ _ _ h2
      case pop =>
        have h : mj_c1 st (fun _ st => mj_x mcs C full Q K n rest L st G M cb sb) := h
        obtain ⟨v, t, rfl, h1, h2⟩ := mj_c1_e h
        rcases v with z | z | z
        · exact ih _ _ _ _ _ _ _ h2
        · exact absurd rfl (h1 z)
        · exact ih _ _ _ _ _ _ _ h2
      case dup2 =>
        have h : mj_c1 st (fun v st => mj_c1 st fun w st => mj_x mcs C full Q K n rest L (v :: w :: v :: w :: st) G M cb sb) := h
        obtain ⟨v, t, rfl, h1, u⟩ := mj_c1_e h
        obtain ⟨v2, t, rfl, h3, h2⟩ := mj_c1_e u
        rcases v with z | z | z <;> rcases v2 with z2 | z2 | z2 <;> first | exact absurd rfl (h1 z) | exact absurd rfl (h3 z2) | exact ih _ _ _ _ _ _ _ h2
      case ifCond c o =>
        obtain ⟨z, t, rfl, h1, h2⟩ := mj_i1_e h
        exact ⟨fun q => ih _ _ _ _ _ _ _ (h1 q), fun q => ih _ _ _ _ _ _ _ (h2 q)⟩
      case if_icmp c o =>
        obtain ⟨y, t, rfl, u⟩ := mj_i1_e h
        obtain ⟨z, t, rfl, h1, h2⟩ := mj_i1_e u
        exact ⟨fun q => ih _ _ _ _ _ _ _ (h1 q), fun q => ih _ _ _ _ _ _ _ (h2 q)⟩
      case ifnull o =>
        obtain ⟨z, t, rfl, h1, h2⟩ := mj_r1_e h
        exact ⟨fun q => ih _ _ _ _ _ _ _ (h1 q), fun q => ih _ _ _ _ _ _ _ (h2 q)⟩
      case ifnonnull o =>
        obtain ⟨z, t, rfl, h1, h2⟩ := mj_r1_e h
        exact ⟨fun q => ih _ _ _ _ _ _ _ (h1 q), fun q => ih _ _ _ _ _ _ _ (h2 q)⟩
      case tableswitch df lo hi offs =>
        obtain ⟨z, t, rfl, h1, h2⟩ := mj_i1_e h
        exact ⟨fun q => ih _ _ _ _ _ _ _ (h1 q), mj_sw_m (fun t h => ih _ _ _ _ _ _ _ h) _ _ h2⟩
      case getfield k =>
        obtain ⟨h0, u⟩ : aux ≠ [] ∧ mj_br (mj_hd aux = 49) (mj_gw (mj_h1 aux) st G (fun st => mj_x mcs C full Q K n rest L st G M cb sb)) (mj_get (mj_hd aux) (mj_h1 aux) st G M (fun st => mj_x mcs C full Q K n rest L st G M cb sb)) := h
        refine ⟨h0, fun q => ?_, fun q => ?_⟩
        · have u := u.1 q
          obtain ⟨a, t, rfl, tt, nn, hG, ht, u⟩ := mj_a1_e u
          refine ⟨tt, nn, hG, ht, ?_⟩
          generalize mj_h1 aux = fk at u ⊢
          match fk, u with
          | 0, u => exact ih _ _ _ _ _ _ _ u
          | m + 1, u => exact ih _ _ _ _ _ _ _ u
        have u := u.2 q
        obtain ⟨a, t, rfl, tt, nn, hG, ht, u⟩ := mj_a1_e u
        refine ⟨tt, nn, hG, ht, ?_⟩
        generalize mj_so (mj_hd aux) (mj_h1 aux) = so at u ⊢
        match so, u with
        | 0, u => exact ih _ _ _ _ _ _ _ u
        | 1, u => exact ih _ _ _ _ _ _ _ u
        | m + 2, u => exact ⟨fun b hb => ih _ _ _ _ _ _ _ (u.1 b hb), fun hb => ih _ _ _ _ _ _ _ (u.2 hb)⟩
      case putfield k =>
        obtain ⟨h0, u⟩ : aux ≠ [] ∧ mj_put (mj_hd aux) (mj_h1 aux) st G M (fun st M => mj_x mcs C full Q K n rest L st G M cb sb) := h
        refine ⟨h0, ?_⟩
        unfold mj_put at u ⊢
        generalize mj_so (mj_hd aux) (mj_h1 aux) = so at u ⊢
        match so, u with
        | 0, u =>
          obtain ⟨z, t, rfl, u⟩ := mj_i1_e u
          obtain ⟨a, t, rfl, tt, nn, hG, ht, h9, hb, u⟩ := mj_a1_e u
          exact ⟨tt, nn, hG, ht, h9, hb, ih _ _ _ _ _ _ _ u⟩
        | 1, u =>
          obtain ⟨z, t, rfl, u⟩ := mj_l1_e u
          obtain ⟨a, t, rfl, tt, nn, hG, ht, h9, u⟩ := mj_a1_e u
          exact ⟨tt, nn, hG, ht, h9, ih _ _ _ _ _ _ _ u⟩
        | m + 2, u =>
          obtain ⟨z, t, rfl, u⟩ := mj_r1_e u
          obtain ⟨a, t, rfl, tt, nn, hG, ht, h9, u⟩ := mj_a1_e u
          exact ⟨tt, nn, hG, ht, h9, ih _ _ _ _ _ _ _ u⟩
      case iaload =>
        exact mj_ald_m (k := fun a i st => mj_x mcs C full Q K n rest L (.inl (M.1 a i) :: st) G M cb sb) (k' := fun a i st => mj_x mcs C full Q' K' n rest L (.inl (M.1 a i) :: st) G M cb sb) (fun _ _ _ h => ih _ _ _ _ _ _ _ h) h
      case laload =>
        exact mj_ald_m (k := fun a i st => mj_x mcs C full Q K n rest L (.inr (.inl (M.2.1 a i)) :: st) G M cb sb) (k' := fun a i st => mj_x mcs C full Q' K' n rest L (.inr (.inl (M.2.1 a i)) :: st) G M cb sb) (fun _ _ _ h => ih _ _ _ _ _ _ _ h) h
      case baload =>
        rcases (show mj_bald st G (fun a i st => mj_x mcs C full Q K n rest L (.inl (M.1 a i) :: st) G M cb sb) from h) with h | h
        · exact Or.inl (mj_ald_m (k := fun a i st => mj_x mcs C full Q K n rest L (.inl (M.1 a i) :: st) G M cb sb) (k' := fun a i st => mj_x mcs C full Q' K' n rest L (.inl (M.1 a i) :: st) G M cb sb) (fun _ _ _ h => ih _ _ _ _ _ _ _ h) h)
        · exact Or.inr (mj_ald_m (k := fun a i st => mj_x mcs C full Q K n rest L (.inl (M.1 a i) :: st) G M cb sb) (k' := fun a i st => mj_x mcs C full Q' K' n rest L (.inl (M.1 a i) :: st) G M cb sb) (fun _ _ _ h => ih _ _ _ _ _ _ _ h) h)
      case aaload =>
        exact mj_ald_m (k := fun a i st => mj_rf (M.2.2 a i) fun v => mj_x mcs C full Q K n rest L (v :: st) G M cb sb) (k' := fun a i st => mj_rf (M.2.2 a i) fun v => mj_x mcs C full Q' K' n rest L (v :: st) G M cb sb) (fun _ _ _ h => ⟨fun b hb => ih _ _ _ _ _ _ _ (h.1 b hb), fun hb => ih _ _ _ _ _ _ _ (h.2 hb)⟩) h
      case iastore =>
        obtain ⟨z, t, rfl, u⟩ := mj_i1_e h
        exact mj_aldw_m (fun _ _ _ h => ih _ _ _ _ _ _ _ h) u
      case lastore =>
        obtain ⟨z, t, rfl, u⟩ := mj_l1_e h
        exact mj_aldw_m (fun _ _ _ h => ih _ _ _ _ _ _ _ h) u
      case bastore =>
        obtain ⟨z, t, rfl, u⟩ := mj_i1_e h
        rcases u with u | ⟨hz, u⟩
        · exact Or.inl (mj_aldw_m (fun _ _ _ h => ih _ _ _ _ _ _ _ h) u)
        · exact Or.inr ⟨hz, mj_aldw_m (fun _ _ _ h => ih _ _ _ _ _ _ _ h) u⟩
      case aastore =>
        obtain ⟨z, t, rfl, u⟩ := mj_r1_e h
        exact mj_aldw_m (k := fun a i st => (∀ b, z = some b → (mj_hd aux = 6 ∧ mj_is G b 7 fun _ _ => True) ∨ (mj_hd aux = 5 ∧ mj_is G b 50 fun _ _ => True)) ∧ mj_x mcs C full Q K n rest L st G (mj_p2 M a i z) cb sb) (k' := fun a i st => (∀ b, z = some b → (mj_hd aux = 6 ∧ mj_is G b 7 fun _ _ => True) ∨ (mj_hd aux = 5 ∧ mj_is G b 50 fun _ _ => True)) ∧ mj_x mcs C full Q' K' n rest L st G (mj_p2 M a i z) cb sb) (fun _ _ _ h => ⟨h.1, ih _ _ _ _ _ _ _ h.2⟩) u
      case arraylength =>
        obtain ⟨a, t, rfl, tt, k, j, h1, h2, h3, h4, u⟩ := mj_a1_e h
        exact ⟨tt, k, j, h1, h2, h3, h4, ih _ _ _ _ _ _ _ u⟩
      case newarray a =>
        obtain ⟨z, t, rfl, h1, h2, h3, h4, tt, h5, u⟩ := mj_i1_e h
        exact ⟨h1, h2, h3, h4, tt, h5, fun a ha => ih _ _ _ _ _ _ _ (u a ha)⟩
      case anewarray a =>
        obtain ⟨z, t, rfl, h1, h2, h3, h4, tt, h5, u⟩ := mj_i1_e h
        exact ⟨h1, h2, h3, h4, tt, h5, fun a ha => ih _ _ _ _ _ _ _ (u a ha)⟩
      case multianewarray a b =>
        obtain ⟨z, t, rfl, u⟩ := mj_i1_e h
        obtain ⟨y, t, rfl, h1, h2, h3, h4, h5, h6, t1, t2, h7, h8, u⟩ := mj_i1_e u
        exact ⟨h1, h2, h3, h4, h5, h6, t1, t2, h7, h8, fun a ha => ih _ _ _ _ _ _ _ (u a ha)⟩
      case new k =>
        obtain ⟨h0, h1, h2, t, ht, u⟩ : aux ≠ [] ∧ 1 ≤ cb ∧ mj_h1 aux ≤ sb ∧ ∃ t, t % 1000 = mj_hd aux + 1 ∧ mj_new G M t 0 fun a G M => mj_x mcs C full Q K n rest L (.inr (.inr (some a)) :: st) G M (cb - 1) (sb - mj_h1 aux) := h
        exact ⟨h0, h1, h2, t, ht, fun a ha => ih _ _ _ _ _ _ _ (u a ha)⟩
      case invokevirtual k =>
        exact ⟨h.1, mj_pop_m _ _ _ (fun As t h => mj_a1_m (fun a t h => by
            obtain ⟨tt, nn, h1, h2, h3, h4, h5, h6⟩ := h
            exact ⟨tt, nn, h1, h2, h3, h4, h5, hC _ _ _ _ _ _ (fun r G M h => ih _ _ _ _ _ _ _ h) h6⟩) h) h.2⟩
      case invokestatic k =>
        match aux, h with
        | [f, u], h => exact mj_lib_m (k := fun st M => mj_x mcs C full Q K n rest L st G M cb sb) (k' := fun st M => mj_x mcs C full Q' K' n rest L st G M cb sb) (fun _ _ h => ih _ _ _ _ _ _ _ h) h
        | [], h => exact absurd rfl h.1
        | [a], h => exact ⟨h.1, mj_pop_m _ _ _ (fun As t h => ⟨h.1, h.2.1, h.2.2.1, hC _ _ _ _ _ _ (fun r G M h => ih _ _ _ _ _ _ _ h) h.2.2.2⟩) h.2⟩
        | a :: b :: d :: aux, h => exact ⟨h.1, mj_pop_m _ _ _ (fun As t h => ⟨h.1, h.2.1, h.2.2.1, hC _ _ _ _ _ _ (fun r G M h => ih _ _ _ _ _ _ _ h) h.2.2.2⟩) h.2⟩
      case invokespecial k =>
        match aux, h with
        | [], h => exact mj_a1_m (fun _ _ h => ⟨h.1, ih _ _ _ _ _ _ _ h.2⟩) h
        | y :: aux, h => exact mj_pop_m _ _ _ (fun As t h => mj_a1_m (fun a t h => by
            obtain ⟨tt, nn, h1, h2, h3, h4, h5, h6⟩ := h
            exact ⟨tt, nn, h1, h2, h3, h4, h5, hC _ _ _ _ _ _ (fun r G M h => ih _ _ _ _ _ _ _ h) h6⟩) h) h
      case ireturn =>
        exact mj_i1_m (fun _ _ h => ⟨h.1, h.2.1, hQ _ _ _ h.2.2⟩) h
      case return_ =>
        exact ⟨h.1, hQ _ _ _ h.2⟩
      case idiv =>
        exact mj_i1_m (fun _ _ h => mj_i1_m (fun _ _ h => ⟨h.1, fun z a b => ih _ _ _ _ _ _ _ (h.2 z a b)⟩) h) h
      case irem =>
        exact mj_i1_m (fun _ _ h => mj_i1_m (fun _ _ h => ⟨h.1, fun z a b => ih _ _ _ _ _ _ _ (h.2 z a b)⟩) h) h
      case lor => exact mj_l1_m (fun _ _ h => mj_l1_m (fun _ _ h => ih _ _ _ _ _ _ _ h) h) h
      case land => exact mj_l1_m (fun _ _ h => mj_l1_m (fun _ _ h => ih _ _ _ _ _ _ _ h) h) h
      case lshl => exact mj_i1_m (fun _ _ h => mj_l1_m (fun _ _ h => ih _ _ _ _ _ _ _ h) h) h
      case lshr => exact mj_i1_m (fun _ _ h => mj_l1_m (fun _ _ h => ih _ _ _ _ _ _ _ h) h) h
      case lcmp => exact mj_l1_m (fun _ _ h => mj_l1_m (fun _ _ h z a b => ih _ _ _ _ _ _ _ (h z a b)) h) h
      case i2l => exact mj_i1_m (fun _ _ h => ih _ _ _ _ _ _ _ h) h
      case l2i => exact mj_l1_m (fun _ _ h z a b => ih _ _ _ _ _ _ _ (h z a b)) h
      case ldc_w k => exact ih _ _ _ _ _ _ _ h
      case if_acmp c o => exact mj_r1_m (fun _ _ h => mj_r1_m (fun _ _ h => ⟨fun q => ih _ _ _ _ _ _ _ (h.1 q), fun q => ih _ _ _ _ _ _ _ (h.2 q)⟩) h) h
      case getstatic k => exact ⟨h.1, fun a q => ih _ _ _ _ _ _ _ (h.2 a q)⟩
      case areturn => exact mj_r1_m (fun _ _ h => ⟨h.1, hQ _ _ _ h.2⟩) h
      all_goals exact h
section MJW
variable {mcs : Nat → Nat × Nat} {C : mj_C} {full : List mj_E} {Q Q' : mj_P} {rest : List mj_E} {L : mj_L} {st : List mj_V} {G : mj_G} {M : mj_M} {cb sb : Nat}
theorem mj_W.step (hC : mj_mo C) (h : mj_x mcs C full Q (mj_W mcs C full Q) 1 rest L st G M cb sb) : mj_W mcs C full Q rest L st G M cb sb := by
  intro K hK
  exact hK _ _ _ _ _ _ _ (mj_x_m hC (fun _ _ _ h => h) (fun _ _ _ _ _ _ _ h => h K hK) 1 _ _ _ _ _ _ _ h)
theorem mj_W.out (hC : mj_mo C) (h : mj_W mcs C full Q rest L st G M cb sb) : mj_x mcs C full Q (mj_W mcs C full Q) 1 rest L st G M cb sb := by
  refine h (fun rest L st G M cb sb => mj_x mcs C full Q (mj_W mcs C full Q) 1 rest L st G M cb sb) (fun rest L st G M cb sb h => ?_)
  exact mj_x_m hC (fun _ _ _ h => h) (fun _ _ _ _ _ _ _ h => mj_W.step hC h) 1 _ _ _ _ _ _ _ h
theorem mj_x_1n {K : mj_S} (n : Nat) (h : mj_x mcs C full Q K (n + 1) rest L st G M cb sb) : mj_x mcs C full Q (fun rest L st G M cb sb => mj_x mcs C full Q K n rest L st G M cb sb) 1 rest L st G M cb sb := by
  cases rest with
  | nil => exact h
  | cons x rest => exact h
theorem mj_x_n1 {K : mj_S} (n : Nat) (h : mj_x mcs C full Q (fun rest L st G M cb sb => mj_x mcs C full Q K n rest L st G M cb sb) 1 rest L st G M cb sb) : mj_x mcs C full Q K (n + 1) rest L st G M cb sb := by
  cases rest with
  | nil => exact h
  | cons x rest => exact h
theorem mj_W.run (hC : mj_mo C) : ∀ (n : Nat) {rest : List mj_E} {L : mj_L} {st : List mj_V} {G : mj_G} {M : mj_M} {cb sb : Nat}, mj_x mcs C full Q (mj_W mcs C full Q) n rest L st G M cb sb → mj_W mcs C full Q rest L st G M cb sb
  | 0, _, _, _, _, _, _, _, h => h
  | n + 1, _, _, _, _, _, _, _, h => mj_W.step hC (mj_x_m hC (fun _ _ _ h => h) (fun _ _ _ _ _ _ _ h => mj_W.run hC n h) 1 _ _ _ _ _ _ _ (mj_x_1n n h))
theorem mj_W.stay (hC : mj_mo C) : ∀ (n : Nat) {rest : List mj_E} {L : mj_L} {st : List mj_V} {G : mj_G} {M : mj_M} {cb sb : Nat}, mj_W mcs C full Q rest L st G M cb sb → mj_x mcs C full Q (mj_W mcs C full Q) n rest L st G M cb sb
  | 0, _, _, _, _, _, _, _, h => h
  | n + 1, _, _, _, _, _, _, _, h => mj_x_n1 n (mj_x_m hC (fun _ _ _ h => h) (fun _ _ _ _ _ _ _ h => mj_W.stay hC n h) 1 _ _ _ _ _ _ _ (mj_W.out hC h))
theorem mj_W.imp (hC : mj_mo C) (hQ : ∀ r G M, Q r G M → Q' r G M) (h : mj_W mcs C full Q rest L st G M cb sb) : mj_W mcs C full Q' rest L st G M cb sb := by
  refine h (mj_W mcs C full Q') (fun rest L st G M cb sb h => mj_W.step hC ?_)
  exact mj_x_m hC hQ (fun _ _ _ _ _ _ _ h => h) 1 _ _ _ _ _ _ _ h
end MJW
theorem mj_R_mo (T : Nat → mj_T) : ∀ d, mj_mo (mj_R T d)
  | 0 => fun _ _ _ _ _ _ _ h => h
  | d + 1 => fun _ _ _ _ _ _ hR h => ⟨h.1, mj_W.imp (mj_R_mo T d) hR h.2⟩
