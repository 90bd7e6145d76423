/-! ===== calls that leave the longs of arrays as they were (laid by a program) ===== -/
def ln (G : mj_G) (M M' : mj_M) : Prop := ∀ a k, (G a).1 % 1000 = 103 → M'.2.1 a k = M.2.1 a k
def ln_nz (ok : Nat → Bool) (x : mj_E) : Bool := match x.1 with
  | .new _ => false
  | .newarray _ => false
  | .anewarray _ => false
  | .multianewarray _ _ => false
  | .lastore => false
  | .putfield _ => Nat.blt (mj_hd x.2.2.1) 100
  | .invokevirtual _ => ok (mj_hd x.2.2.1)
  | .invokestatic _ => match x.2.2.1 with
    | [f, _] => Nat.ble f 3
    | _ => ok (mj_hd x.2.2.1)
  | .invokespecial _ => match x.2.2.1 with
    | [] => true
    | y :: _ => ok y
  | _ => true
def ln_C (ok : Nat → Bool) (C : mj_C) : Prop := ∀ y av G M (R : mj_P), ok y = true → C y av G M R → C y av G M (fun r G' M' => R r G' M' ∧ G' = G ∧ ln G M M')
theorem ln_lib {f : Nat} {st : List mj_V} {G : mj_G} {M0 M : mj_M} {k k' : List mj_V → mj_M → Prop} (hf : f ≤ 3) (hl : ln G M0 M) (hk : ∀ t M', ln G M0 M' → k t M' → k' t M') (h : mj_lib f st G M k) : mj_lib f st G M k' := by
  match f, h, hf with
  | 0, h, _ => exact mj_i1_m (fun _ _ h => mj_i1_m (fun _ _ h => ⟨h.1, fun z a b => hk _ _ hl (h.2 z a b)⟩) h) h
  | 1, h, _ => exact mj_i1_m (fun _ _ h => mj_i1_m (fun _ _ h => ⟨h.1, fun z a b => hk _ _ hl (h.2 z a b)⟩) h) h
  | 2, h, _ => exact mj_i1_m (fun _ _ h => ⟨h.1, fun z a b c => hk _ _ hl (h.2 z a b c)⟩) h
  | 3, h, _ => exact mj_cpy_m (k := fun a b sp dp n st => k st (mj_cp0 M a b sp dp n)) (k' := fun a b sp dp n st => k' st (mj_cp0 M a b sp dp n)) (fun _ _ _ _ _ _ h => hk _ _ hl h) h
  | n + 4, _, hf => exact absurd hf (by omega)
set_option maxHeartbeats 4000000 in
theorem ln_x {ok : Nat → Bool} {mcs : Nat → Nat × Nat} {C : mj_C} {full : List mj_E} {Q Q' : mj_P} {K K' : mj_S} {G : mj_G} {M0 : mj_M} (hM : mj_mo C) (hC : ln_C ok C) (hf : ∀ x ∈ full, ln_nz ok x = true) (hQ : ∀ r M', ln G M0 M' → Q r G M' → Q' r G M') (hK : ∀ rest L st M' cb sb, (∀ x ∈ rest, ln_nz ok x = true) → ln G M0 M' → K rest L st G M' cb sb → K' rest L st G M' cb sb)
    (rest : List mj_E) (hr : ∀ x ∈ rest, ln_nz ok x = true) (L : mj_L) (st : List mj_V) (M : mj_M) (cb sb : Nat) (hl : ln G M0 M) (h : mj_x mcs C full Q K 1 rest L st G M cb sb) : mj_x mcs C full Q' K' 1 rest L st G M cb sb := by
  cases rest with
  | nil => exact h
  | cons x rest =>
    obtain ⟨ins, pc, aux, imm⟩ := x
    have ht : ∀ x ∈ rest, ln_nz ok x = true := fun x hx => hr x (List.mem_cons_of_mem _ hx)
    have hd : ∀ t, ∀ x ∈ full.drop t, ln_nz ok x = true := fun t x hx => hf x (List.mem_of_mem_drop hx)
    have h0 := hr _ List.mem_cons_self
    cases ins
    case iload_n k =>
      have h : mj_ldi L k.val (fun v => K rest L (v :: st) G M cb sb) := h
      obtain ⟨z, h1, h2⟩ := mj_ldi_e h
      show mj_ldi L k.val (fun v => K' rest L (v :: st) G M cb sb)
      unfold mj_ldi
      rw [h1]
      exact hK _ _ _ _ _ _ ht hl h2
    case iload k =>
      have h : mj_ldi L k (fun v => K rest L (v :: st) G M cb sb) := h
      obtain ⟨z, h1, h2⟩ := mj_ldi_e h
      show mj_ldi L k (fun v => K' rest L (v :: st) G M cb sb)
      unfold mj_ldi
      rw [h1]
      exact hK _ _ _ _ _ _ ht hl h2
    case lload_n k =>
      have h : mj_ldl L k.val (fun v => K rest L (v :: st) G M cb sb) := h
      obtain ⟨z, h1, h2⟩ := mj_ldl_e h
      show mj_ldl L k.val (fun v => K' rest L (v :: st) G M cb sb)
      unfold mj_ldl
      rw [h1]
      exact hK _ _ _ _ _ _ ht hl h2
    case lload k =>
      have h : mj_ldl L k (fun v => K rest L (v :: st) G M cb sb) := h
      obtain ⟨z, h1, h2⟩ := mj_ldl_e h
      show mj_ldl L k (fun v => K' rest L (v :: st) G M cb sb)
      unfold mj_ldl
      rw [h1]
      exact hK _ _ _ _ _ _ ht hl h2
    case aload_n k =>
      have h : mj_lda L k.val (fun v => K rest L (v :: st) G M cb sb) := h
      obtain ⟨z, h1, h2⟩ := mj_lda_e h
      show mj_lda L k.val (fun v => K' rest L (v :: st) G M cb sb)
      unfold mj_lda
      rw [h1]
      exact hK _ _ _ _ _ _ ht hl h2
    case aload k =>
      have h : mj_lda L k (fun v => K rest L (v :: st) G M cb sb) := h
      obtain ⟨z, h1, h2⟩ := mj_lda_e h
      show mj_lda L k (fun v => K' rest L (v :: st) G M cb sb)
      unfold mj_lda
      rw [h1]
      exact hK _ _ _ _ _ _ ht hl h2
    case istore_n k =>
      obtain ⟨z, t, rfl, h2⟩ := mj_i1_e h
      exact hK _ _ _ _ _ _ ht hl h2
    case istore k =>
      obtain ⟨z, t, rfl, h2⟩ := mj_i1_e h
      exact hK _ _ _ _ _ _ ht hl h2
    case lstore_n k =>
      obtain ⟨z, t, rfl, h2⟩ := mj_l1_e h
      exact hK _ _ _ _ _ _ ht hl h2
    case lstore k =>
      obtain ⟨z, t, rfl, h2⟩ := mj_l1_e h
      exact hK _ _ _ _ _ _ ht hl h2
    case astore_n k =>
      obtain ⟨z, t, rfl, h2⟩ := mj_r1_e h
      exact hK _ _ _ _ _ _ ht hl h2
    case astore k =>
      obtain ⟨z, t, rfl, h2⟩ := mj_r1_e h
      exact hK _ _ _ _ _ _ ht hl h2
    case iinc k c =>
      have h : mj_ldi L k (fun v => mj_i1 [v] fun z _ => (mj_in (z + c) ∧ K rest (mj_s1 L k (.inl (z + c))) st G M cb sb) ∨ ∀ q, mj_in q → q = (Int32.ofInt z + Int32.ofInt c).toInt → K rest (mj_s1 L k (.inl q)) st G M cb sb) := h
      obtain ⟨z, h1, h2⟩ := mj_ldi_e h
      show mj_ldi L k (fun v => mj_i1 [v] fun z _ => (mj_in (z + c) ∧ K' rest (mj_s1 L k (.inl (z + c))) st G M cb sb) ∨ ∀ q, mj_in q → q = (Int32.ofInt z + Int32.ofInt c).toInt → K' rest (mj_s1 L k (.inl q)) st G M cb sb)
      unfold mj_ldi
      rw [h1]
      have h2 : (mj_in (z + c) ∧ _) ∨ _ := h2
      exact h2.imp (fun q => ⟨q.1, hK _ _ _ _ _ _ ht hl q.2⟩) (fun q w a b => hK _ _ _ _ _ _ ht hl (q w a b))
    case iconst z =>
      exact hK _ _ _ _ _ _ ht hl h
    case bipush z =>
      exact hK _ _ _ _ _ _ ht hl h
    case sipush z =>
      exact hK _ _ _ _ _ _ ht hl h
    case ldc z =>
      exact hK _ _ _ _ _ _ ht hl h
    case ldc2_w z =>
      exact hK _ _ _ _ _ _ ht hl h
    case lconst z =>
      exact hK _ _ _ _ _ _ ht hl h
    case aconst_null =>
      exact hK _ _ _ _ _ _ ht hl h
    case goto z =>
      exact hK _ _ _ _ _ _ (hd _) hl h
    case iadd =>
      obtain ⟨y, t, rfl, u1⟩ := mj_i1_e h
      obtain ⟨x, t, rfl, u2⟩ := mj_i1_e u1
      rcases u2 with ⟨h1, h2⟩ | h2
      · exact Or.inl ⟨h1, hK _ _ _ _ _ _ ht hl h2⟩
      · exact Or.inr (fun z hz hz2 => hK _ _ _ _ _ _ ht hl (h2 z hz hz2))
    case isub =>
      obtain ⟨y, t, rfl, u1⟩ := mj_i1_e h
      obtain ⟨x, t, rfl, u2⟩ := mj_i1_e u1
      rcases u2 with ⟨h1, h2⟩ | h2
      · exact Or.inl ⟨h1, hK _ _ _ _ _ _ ht hl h2⟩
      · exact Or.inr (fun z hz hz2 => hK _ _ _ _ _ _ ht hl (h2 z hz hz2))
    case imul =>
      obtain ⟨y, t, rfl, u1⟩ := mj_i1_e h
      obtain ⟨x, t, rfl, u2⟩ := mj_i1_e u1
      rcases u2 with ⟨h1, h2⟩ | h2
      · exact Or.inl ⟨h1, hK _ _ _ _ _ _ ht hl h2⟩
      · exact Or.inr (fun z hz hz2 => hK _ _ _ _ _ _ ht hl (h2 z hz hz2))
    case iand =>
      obtain ⟨y, t, rfl, u1⟩ := mj_i1_e h
      obtain ⟨x, t, rfl, u2⟩ := mj_i1_e u1
      exact fun z hz hz2 => hK _ _ _ _ _ _ ht hl (u2 z hz hz2)
    case ior =>
      obtain ⟨y, t, rfl, u1⟩ := mj_i1_e h
      obtain ⟨x, t, rfl, u2⟩ := mj_i1_e u1
      exact fun z hz hz2 => hK _ _ _ _ _ _ ht hl (u2 z hz hz2)
    case ishl =>
      obtain ⟨y, t, rfl, u1⟩ := mj_i1_e h
      obtain ⟨x, t, rfl, u2⟩ := mj_i1_e u1
      exact fun z hz hz2 => hK _ _ _ _ _ _ ht hl (u2 z hz hz2)
    case ishr =>
      obtain ⟨y, t, rfl, u1⟩ := mj_i1_e h
      obtain ⟨x, t, rfl, u2⟩ := mj_i1_e u1
      exact fun z hz hz2 => hK _ _ _ _ _ _ ht hl (u2 z hz hz2)
    case iushr =>
      obtain ⟨y, t, rfl, u1⟩ := mj_i1_e h
      obtain ⟨x, t, rfl, u2⟩ := mj_i1_e u1
      exact fun z hz hz2 => hK _ _ _ _ _ _ ht hl (u2 z hz hz2)
    case ineg =>
      obtain ⟨x, t, rfl, u2⟩ := mj_i1_e h
      exact fun z hz hz2 => hK _ _ _ _ _ _ ht hl (u2 z hz hz2)
    case i2b =>
      obtain ⟨x, t, rfl, u2⟩ := mj_i1_e h
      exact fun z hz hz2 => hK _ _ _ _ _ _ ht hl (u2 z hz hz2)
    case dup =>
      have h : mj_c1 st (fun v st => K rest L (v :: v :: st) G M cb sb) := h
      obtain ⟨v, t, rfl, h1, h2⟩ := mj_c1_e h
      rcases v with z | z | z
      · exact hK _ _ _ _ _ _ ht hl h2
      · exact absurd rfl (h1 z)
      · exact hK _ _ _ _ _ _ ht hl h2
    case pop =>
      have h : mj_c1 st (fun _ st => K rest L st G M cb sb) := h
      obtain ⟨v, t, rfl, h1, h2⟩ := mj_c1_e h
      rcases v with z | z | z
      · exact hK _ _ _ _ _ _ ht hl h2
      · exact absurd rfl (h1 z)
      · exact hK _ _ _ _ _ _ ht hl h2
    case dup2 =>
      have h : mj_c1 st (fun v st => mj_c1 st fun w st => K rest L (v :: w :: v :: w :: st) G M cb sb) := h
      obtain ⟨v, t, rfl, h1, u⟩ := mj_c1_e h
      obtain ⟨v2, t, rfl, h3, h2⟩ := mj_c1_e u
      rcases v with z | z | z <;> rcases v2 with z2 | z2 | z2 <;> first | exact absurd rfl (h1 z) | exact absurd rfl (h3 z2) | exact hK _ _ _ _ _ _ ht hl h2
    case ifCond c o =>
      obtain ⟨z, t, rfl, h1, h2⟩ := mj_i1_e h
      exact ⟨fun q => hK _ _ _ _ _ _ (hd _) hl (h1 q), fun q => hK _ _ _ _ _ _ ht hl (h2 q)⟩
    case if_icmp c o =>
      obtain ⟨y, t, rfl, u⟩ := mj_i1_e h
      obtain ⟨z, t, rfl, h1, h2⟩ := mj_i1_e u
      exact ⟨fun q => hK _ _ _ _ _ _ (hd _) hl (h1 q), fun q => hK _ _ _ _ _ _ ht hl (h2 q)⟩
    case ifnull o =>
      obtain ⟨z, t, rfl, h1, h2⟩ := mj_r1_e h
      exact ⟨fun q => hK _ _ _ _ _ _ (hd _) hl (h1 q), fun q => hK _ _ _ _ _ _ ht hl (h2 q)⟩
    case ifnonnull o =>
      obtain ⟨z, t, rfl, h1, h2⟩ := mj_r1_e h
      exact ⟨fun q => hK _ _ _ _ _ _ (hd _) hl (h1 q), fun q => hK _ _ _ _ _ _ ht hl (h2 q)⟩
    case tableswitch df lo hi offs =>
      obtain ⟨z, t, rfl, h1, h2⟩ := mj_i1_e h
      exact ⟨fun q => hK _ _ _ _ _ _ (hd _) hl (h1 q), mj_sw_m (fun t h => hK _ _ _ _ _ _ (hd _) hl h) _ _ h2⟩
    case getfield k =>
      obtain ⟨hx, u⟩ : aux ≠ [] ∧ mj_br (mj_hd aux = 49) (mj_gw (mj_h1 aux) st G (fun st => K rest L st G M cb sb)) (mj_get (mj_hd aux) (mj_h1 aux) st G M (fun st => K rest L st G M cb sb)) := h
      refine ⟨hx, fun q => ?_, fun q => ?_⟩
      · have u := u.1 q
        obtain ⟨a, t, rfl, tt, nn, hG, ht', u⟩ := mj_a1_e u
        refine ⟨tt, nn, hG, ht', ?_⟩
        generalize mj_h1 aux = fk at u ⊢
        match fk, u with
        | 0, u => exact hK _ _ _ _ _ _ ht hl u
        | m + 1, u => exact hK _ _ _ _ _ _ ht hl u
      have u := u.2 q
      obtain ⟨a, t, rfl, tt, nn, hG, ht', u⟩ := mj_a1_e u
      refine ⟨tt, nn, hG, ht', ?_⟩
      generalize mj_so (mj_hd aux) (mj_h1 aux) = so at u ⊢
      match so, u with
      | 0, u => exact hK _ _ _ _ _ _ ht hl u
      | 1, u => exact hK _ _ _ _ _ _ ht hl u
      | m + 2, u => exact ⟨fun b hb => hK _ _ _ _ _ _ ht hl (u.1 b hb), fun hb => hK _ _ _ _ _ _ ht hl (u.2 hb)⟩
    case putfield k =>
      obtain ⟨hx, u⟩ : aux ≠ [] ∧ mj_put (mj_hd aux) (mj_h1 aux) st G M (fun st M => K rest L st G M cb sb) := h
      refine ⟨hx, ?_⟩
      have h0 : mj_hd aux < 100 := Nat.le_of_ble_eq_true h0
      unfold mj_put at u ⊢
      generalize mj_so (mj_hd aux) (mj_h1 aux) = so at u ⊢
      match so, u with
      | 0, u =>
        obtain ⟨z, t, rfl, u⟩ := mj_i1_e u
        obtain ⟨a, t, rfl, tt, nn, hG, ht', h9, hb, u⟩ := mj_a1_e u
        exact ⟨tt, nn, hG, ht', h9, hb, hK _ _ _ _ _ _ ht hl u⟩
      | 1, u =>
        obtain ⟨z, t, rfl, u⟩ := mj_l1_e u
        obtain ⟨a, t, rfl, tt, nn, hG, ht', h9, u⟩ := mj_a1_e u
        exact ⟨tt, nn, hG, ht', h9, hK _ _ _ _ _ _ ht (fun x k e => (if_neg (fun q => by rw [q.1, hG] at e; exact absurd (e.symm.trans ht') (by omega))).trans (hl x k e)) u⟩
      | m + 2, u =>
        obtain ⟨z, t, rfl, u⟩ := mj_r1_e u
        obtain ⟨a, t, rfl, tt, nn, hG, ht', h9, u⟩ := mj_a1_e u
        exact ⟨tt, nn, hG, ht', h9, hK _ _ _ _ _ _ ht hl u⟩
    case iaload =>
      exact mj_ald_m (k := fun a i st => K rest L (.inl (M.1 a i) :: st) G M cb sb) (k' := fun a i st => K' rest L (.inl (M.1 a i) :: st) G M cb sb) (fun _ _ _ h => hK _ _ _ _ _ _ ht hl h) h
    case laload =>
      exact mj_ald_m (k := fun a i st => K rest L (.inr (.inl (M.2.1 a i)) :: st) G M cb sb) (k' := fun a i st => K' rest L (.inr (.inl (M.2.1 a i)) :: st) G M cb sb) (fun _ _ _ h => hK _ _ _ _ _ _ ht hl h) h
    case baload =>
      rcases (show mj_bald st G (fun a i st => K rest L (.inl (M.1 a i) :: st) G M cb sb) from h) with h | h
      · exact Or.inl (mj_ald_m (k := fun a i st => K rest L (.inl (M.1 a i) :: st) G M cb sb) (k' := fun a i st => K' rest L (.inl (M.1 a i) :: st) G M cb sb) (fun _ _ _ h => hK _ _ _ _ _ _ ht hl h) h)
      · exact Or.inr (mj_ald_m (k := fun a i st => K rest L (.inl (M.1 a i) :: st) G M cb sb) (k' := fun a i st => K' rest L (.inl (M.1 a i) :: st) G M cb sb) (fun _ _ _ h => hK _ _ _ _ _ _ ht hl h) h)
    case aaload =>
      exact mj_ald_m (k := fun a i st => mj_rf (M.2.2 a i) fun v => K rest L (v :: st) G M cb sb) (k' := fun a i st => mj_rf (M.2.2 a i) fun v => K' rest L (v :: st) G M cb sb) (fun _ _ _ h => ⟨fun b hb => hK _ _ _ _ _ _ ht hl (h.1 b hb), fun hb => hK _ _ _ _ _ _ ht hl (h.2 hb)⟩) h
    case iastore =>
      obtain ⟨z, t, rfl, u⟩ := mj_i1_e h
      exact mj_aldw_m (k := fun a i st => K rest L st G (mj_p0 M a i z) cb sb) (k' := fun a i st => K' rest L st G (mj_p0 M a i z) cb sb) (fun _ _ _ h => hK _ _ _ _ _ _ ht hl h) u
    case lastore =>
      cases h0
    case bastore =>
      obtain ⟨z, t, rfl, u⟩ := mj_i1_e h
      rcases u with u | ⟨hz, u⟩
      · exact Or.inl (mj_aldw_m (fun _ _ _ h => hK _ _ _ _ _ _ ht hl h) u)
      · exact Or.inr ⟨hz, mj_aldw_m (fun _ _ _ h => hK _ _ _ _ _ _ ht hl h) u⟩
    case aastore =>
      obtain ⟨z, t, rfl, u⟩ := mj_r1_e h
      exact mj_aldw_m (k := fun a i st => (∀ b, z = some b → (mj_hd aux = 6 ∧ mj_is G b 7 fun _ _ => True) ∨ (mj_hd aux = 5 ∧ mj_is G b 50 fun _ _ => True)) ∧ K rest L st G (mj_p2 M a i z) cb sb) (k' := fun a i st => (∀ b, z = some b → (mj_hd aux = 6 ∧ mj_is G b 7 fun _ _ => True) ∨ (mj_hd aux = 5 ∧ mj_is G b 50 fun _ _ => True)) ∧ K' rest L st G (mj_p2 M a i z) cb sb) (fun _ _ _ h => ⟨h.1, hK _ _ _ _ _ _ ht hl h.2⟩) u
    case arraylength =>
      obtain ⟨a, t, rfl, tt, k, j, h1, h2, h3, h4, u⟩ := mj_a1_e h
      exact ⟨tt, k, j, h1, h2, h3, h4, hK _ _ _ _ _ _ ht hl u⟩
    case newarray a =>
      cases h0
    case anewarray a =>
      cases h0
    case multianewarray a b =>
      cases h0
    case new k =>
      cases h0
    case invokevirtual k =>
      have hk : ∀ (r : Option mj_V) (G' : mj_G) (M' : mj_M) (L' : mj_L) (st' : List mj_V) (cb' sb' : Nat), (K rest L' st' G' M' cb' sb' ∧ G' = G ∧ ln G M M') → K' rest L' st' G' M' cb' sb' := fun r G' M' L' st' cb' sb' q => by
        obtain ⟨q1, q2, q3⟩ := q
        rw [q2] at q1 ⊢
        exact hK _ _ _ _ _ _ ht (fun a k e => (q3 a k e).trans (hl a k e)) q1
      exact ⟨h.1, mj_pop_m _ _ _ (fun As t h => mj_a1_m (fun a t h => by
          obtain ⟨tt, nn, h1, h2, h3, h4, h5, h6⟩ := h
          exact ⟨tt, nn, h1, h2, h3, h4, h5, hM _ _ _ _ _ _ (fun r G' M' q => hk r G' M' _ _ _ _ q) (hC _ _ _ _ _ h0 h6)⟩) h) h.2⟩
    case invokestatic k =>
      have hk : ∀ (r : Option mj_V) (G' : mj_G) (M' : mj_M) (L' : mj_L) (st' : List mj_V) (cb' sb' : Nat), (K rest L' st' G' M' cb' sb' ∧ G' = G ∧ ln G M M') → K' rest L' st' G' M' cb' sb' := fun r G' M' L' st' cb' sb' q => by
        obtain ⟨q1, q2, q3⟩ := q
        rw [q2] at q1 ⊢
        exact hK _ _ _ _ _ _ ht (fun a k e => (q3 a k e).trans (hl a k e)) q1
      match aux, h, h0 with
      | [f, u], h, h0 => exact ln_lib (k := fun st M => K rest L st G M cb sb) (k' := fun st M => K' rest L st G M cb sb) (Nat.le_of_ble_eq_true h0) hl (fun _ _ hl h => hK _ _ _ _ _ _ ht hl h) h
      | [], h, h0 => exact absurd rfl h.1
      | [a], h, h0 => exact ⟨h.1, mj_pop_m _ _ _ (fun As t h => ⟨h.1, h.2.1, h.2.2.1, hM _ _ _ _ _ _ (fun r G' M' q => hk r G' M' _ _ _ _ q) (hC _ _ _ _ _ h0 h.2.2.2)⟩) h.2⟩
      | a :: b :: d :: aux, h, h0 => exact ⟨h.1, mj_pop_m _ _ _ (fun As t h => ⟨h.1, h.2.1, h.2.2.1, hM _ _ _ _ _ _ (fun r G' M' q => hk r G' M' _ _ _ _ q) (hC _ _ _ _ _ h0 h.2.2.2)⟩) h.2⟩
    case invokespecial k =>
      have hk : ∀ (r : Option mj_V) (G' : mj_G) (M' : mj_M) (L' : mj_L) (st' : List mj_V) (cb' sb' : Nat), (K rest L' st' G' M' cb' sb' ∧ G' = G ∧ ln G M M') → K' rest L' st' G' M' cb' sb' := fun r G' M' L' st' cb' sb' q => by
        obtain ⟨q1, q2, q3⟩ := q
        rw [q2] at q1 ⊢
        exact hK _ _ _ _ _ _ ht (fun a k e => (q3 a k e).trans (hl a k e)) q1
      match aux, h, h0 with
      | [], h, h0 => exact mj_a1_m (fun _ _ h => ⟨h.1, hK _ _ _ _ _ _ ht hl h.2⟩) h
      | y :: aux, h, h0 => exact mj_pop_m _ _ _ (fun As t h => mj_a1_m (fun a t h => by
          obtain ⟨tt, nn, h1, h2, h3, h4, h5, h6⟩ := h
          exact ⟨tt, nn, h1, h2, h3, h4, h5, hM _ _ _ _ _ _ (fun r G' M' q => hk r G' M' _ _ _ _ q) (hC _ _ _ _ _ h0 h6)⟩) h) h
    case ireturn =>
      exact mj_i1_m (fun _ _ h => ⟨h.1, h.2.1, hQ _ _ hl h.2.2⟩) h
    case return_ =>
      exact ⟨h.1, hQ _ _ hl h.2⟩
    case idiv =>
      exact mj_i1_m (fun _ _ h => mj_i1_m (fun _ _ h => ⟨h.1, fun z a b => hK _ _ _ _ _ _ ht hl (h.2 z a b)⟩) h) h
    case irem =>
      exact mj_i1_m (fun _ _ h => mj_i1_m (fun _ _ h => ⟨h.1, fun z a b => hK _ _ _ _ _ _ ht hl (h.2 z a b)⟩) h) h
    case lor => exact mj_l1_m (fun _ _ h => mj_l1_m (fun _ _ h => hK _ _ _ _ _ _ ht hl h) h) h
    case land => exact mj_l1_m (fun _ _ h => mj_l1_m (fun _ _ h => hK _ _ _ _ _ _ ht hl h) h) h
    case lshl => exact mj_i1_m (fun _ _ h => mj_l1_m (fun _ _ h => hK _ _ _ _ _ _ ht hl h) h) h
    case lshr => exact mj_i1_m (fun _ _ h => mj_l1_m (fun _ _ h => hK _ _ _ _ _ _ ht hl h) h) h
    case lcmp => exact mj_l1_m (fun _ _ h => mj_l1_m (fun _ _ h z a b => hK _ _ _ _ _ _ ht hl (h z a b)) h) h
    case i2l => exact mj_i1_m (fun _ _ h => hK _ _ _ _ _ _ ht hl h) h
    case l2i => exact mj_l1_m (fun _ _ h z a b => hK _ _ _ _ _ _ ht hl (h z a b)) h
    case ldc_w k => exact hK _ _ _ _ _ _ ht hl h
    case if_acmp c o => exact mj_r1_m (fun _ _ h => mj_r1_m (fun _ _ h => ⟨fun q => hK _ _ _ _ _ _ (hd _) hl (h.1 q), fun q => hK _ _ _ _ _ _ ht hl (h.2 q)⟩) h) h
    case getstatic k => exact ⟨h.1, fun a q => hK _ _ _ _ _ _ ht hl (h.2 a q)⟩
    case areturn => exact mj_r1_m (fun _ _ h => ⟨h.1, hQ _ _ hl h.2⟩) h
    all_goals exact h
theorem ln_W {ok : Nat → Bool} {mcs : Nat → Nat × Nat} {C : mj_C} {full : List mj_E} {Q : mj_P} (hM : mj_mo C) (hC : ln_C ok C) (hf : ∀ x ∈ full, ln_nz ok x = true) {rest : List mj_E} {L : mj_L} {st : List mj_V} {G : mj_G} {M : mj_M} {cb sb : Nat} (hr : ∀ x ∈ rest, ln_nz ok x = true) (h : mj_W mcs C full Q rest L st G M cb sb) : mj_W mcs C full (fun r G' M' => Q r G' M' ∧ G' = G ∧ ln G M M') rest L st G M cb sb := by
  refine h (fun rest L st G' M' cb sb => (∀ x ∈ rest, ln_nz ok x = true) → G' = G → ln G M M' → mj_W mcs C full (fun r G' M' => Q r G' M' ∧ G' = G ∧ ln G M M') rest L st G' M' cb sb) (fun rest L st G' M' cb sb h hr e hl => ?_) hr rfl (fun _ _ _ => rfl)
  rw [e] at h ⊢
  exact mj_W.step hM (ln_x hM hC hf (fun r M2 l q => ⟨q, rfl, l⟩) (fun rest L st M2 cb sb q l k => k q rfl l) _ hr _ _ _ _ _ hl h)
/-- methods that make nothing and write no long of an array, and call none that does, n deep -/
def ln_ok (T : Nat → mj_T) : Nat → Nat → Bool
  | 0, _ => false
  | n + 1, y => (T y).2.2.2.2.1.all (ln_nz (ln_ok T n))
theorem ln_R (T : Nat → mj_T) : ∀ d, ln_C (fun y => ln_ok T d y) (mj_R T d)
  | 0 => fun _ _ _ _ _ h _ => by cases h
  | d + 1 => fun y av G M R h h1 => ⟨h1.1, ln_W (ok := ln_ok T d) (mj_R_mo T d) (ln_R T d) (fun x hx => List.all_eq_true.mp h x hx) (fun x hx => List.all_eq_true.mp h x hx) h1.2⟩
