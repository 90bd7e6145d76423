section
/-! ===== what two proofs tell of one call may be told together, of methods that make no cells (laid by a program) ===== -/
def an_nz (ok : Nat → Bool) (x : mj_E) : Bool := match x.1 with
  | .new _ => false
  | .newarray _ => false
  | .anewarray _ => false
  | .multianewarray _ _ => false
  | .invokevirtual _ => ok (mj_hd x.2.2.1)
  | .invokestatic _ => match x.2.2.1 with
    | [_, _] => true
    | _ => ok (mj_hd x.2.2.1)
  | .invokespecial _ => match x.2.2.1 with
    | [] => true
    | y :: _ => ok y
  | _ => true
def an_C (ok : Nat → Bool) (C : mj_C) : Prop := ∀ y av G M (R R' : mj_P), ok y = true → C y av G M R → C y av G M R' → C y av G M (fun r G M => R r G M ∧ R' r G M)
theorem an_pop : ∀ (n : Nat) (acc st : List mj_V) {k k' k2 : List mj_V → List mj_V → Prop}, (∀ a t, k a t → k' a t → k2 a t) → mj_pop n acc st k → mj_pop n acc st k' → mj_pop n acc st k2
  | 0, acc, st, _, _, _, hk, h, h' => hk acc st h h'
  | n + 1, acc, [], _, _, _, _, h, _ => h
  | n + 1, acc, v :: st, _, _, _, hk, h, h' => an_pop n (v :: acc) st hk h h'
theorem an_sw {z : Int} {k k' k2 : Nat → Prop} (hk : ∀ t, k t → k' t → k2 t) : ∀ (ts : List Nat) (v : Int), mj_sw z k v ts → mj_sw z k' v ts → mj_sw z k2 v ts
  | [], _, _, _ => trivial
  | t :: ts, v, h, h' => ⟨fun q => hk t (h.1 q) (h'.1 q), an_sw hk ts (v + 1) h.2 h'.2⟩
theorem an_ldi {L : mj_L} {i : Nat} {k k' k2 : mj_V → Prop} (hk : ∀ z, k (.inl z) → k' (.inl z) → k2 (.inl z)) (h : mj_ldi L i k) (h' : mj_ldi L i k') : mj_ldi L i k2 := by
  unfold mj_ldi at *
  split at h
  · rename_i z e; rw [e] at h'; exact hk _ h h'
  · exact h.elim
theorem an_ldl {L : mj_L} {i : Nat} {k k' k2 : mj_V → Prop} (hk : ∀ z, k (.inr (.inl z)) → k' (.inr (.inl z)) → k2 (.inr (.inl z))) (h : mj_ldl L i k) (h' : mj_ldl L i k') : mj_ldl L i k2 := by
  unfold mj_ldl at *
  split at h
  · rename_i z e; rw [e] at h'; exact hk _ h h'
  · exact h.elim
theorem an_lda {L : mj_L} {i : Nat} {k k' k2 : mj_V → Prop} (hk : ∀ z, k (.inr (.inr z)) → k' (.inr (.inr z)) → k2 (.inr (.inr z))) (h : mj_lda L i k) (h' : mj_lda L i k') : mj_lda L i k2 := by
  unfold mj_lda at *
  split at h
  · rename_i z e; rw [e] at h'; exact hk _ h h'
  · exact h.elim
theorem an_i1 {st : List mj_V} {k k' k2 : Int → List mj_V → Prop} (hk : ∀ a t, k a t → k' a t → k2 a t) (h : mj_i1 st k) (h' : mj_i1 st k') : mj_i1 st k2 := by
  obtain ⟨a, t, rfl, h⟩ := mj_i1_e h
  exact hk a t h h'
theorem an_l1 {st : List mj_V} {k k' k2 : Int64 → List mj_V → Prop} (hk : ∀ a t, k a t → k' a t → k2 a t) (h : mj_l1 st k) (h' : mj_l1 st k') : mj_l1 st k2 := by
  obtain ⟨a, t, rfl, h⟩ := mj_l1_e h
  exact hk a t h h'
theorem an_r1 {st : List mj_V} {k k' k2 : Option Nat → List mj_V → Prop} (hk : ∀ a t, k a t → k' a t → k2 a t) (h : mj_r1 st k) (h' : mj_r1 st k') : mj_r1 st k2 := by
  obtain ⟨a, t, rfl, h⟩ := mj_r1_e h
  exact hk a t h h'
theorem an_a1 {st : List mj_V} {k k' k2 : Nat → List mj_V → Prop} (hk : ∀ a t, k a t → k' a t → k2 a t) (h : mj_a1 st k) (h' : mj_a1 st k') : mj_a1 st k2 := by
  obtain ⟨a, t, rfl, h⟩ := mj_a1_e h
  exact hk a t h h'
theorem an_c1 {st : List mj_V} {k k' k2 : mj_V → List mj_V → Prop} (hk : ∀ a t, k a t → k' a t → k2 a t) (h : mj_c1 st k) (h' : mj_c1 st k') : mj_c1 st k2 := by
  unfold mj_c1 at *
  split at h
  · exact hk _ _ h h'
  · exact hk _ _ h h'
  · exact h.elim
theorem an_is {G : mj_G} {a s : Nat} {k k' k2 : Nat → Nat → Prop} (hk : ∀ t n, k t n → k' t n → k2 t n) (h : mj_is G a s k) (h' : mj_is G a s k') : mj_is G a s k2 := by
  obtain ⟨t, n, h1, h2, h3⟩ := h
  obtain ⟨t', n', h1', h2', h3'⟩ := h'
  obtain ⟨rfl, rfl⟩ := Prod.mk.inj (h1.symm.trans h1')
  exact ⟨t, n, h1, h2, hk _ _ h3 h3'⟩
theorem an_iw {G : mj_G} {a s : Nat} {k k' k2 : Nat → Nat → Prop} (hk : ∀ t n, k t n → k' t n → k2 t n) (h : mj_iw G a s k) (h' : mj_iw G a s k') : mj_iw G a s k2 := by
  obtain ⟨t, n, h1, h2, h9, h3⟩ := h
  obtain ⟨t', n', h1', h2', -, h3'⟩ := h'
  obtain ⟨rfl, rfl⟩ := Prod.mk.inj (h1.symm.trans h1')
  exact ⟨t, n, h1, h2, h9, hk _ _ h3 h3'⟩
theorem an_ald {j : Nat} {st : List mj_V} {G : mj_G} {k k' k2 : Nat → Nat → List mj_V → Prop} (hk : ∀ a i t, k a i t → k' a i t → k2 a i t) (h : mj_ald j st G k) (h' : mj_ald j st G k') : mj_ald j st G k2 := an_i1 (fun _ _ h h' => an_a1 (fun _ _ h h' => an_is (fun _ _ h h' => ⟨h.1, h.2.1, hk _ _ _ h.2.2 h'.2.2⟩) h h') h h') h h'
theorem an_aldw {j : Nat} {st : List mj_V} {G : mj_G} {k k' k2 : Nat → Nat → List mj_V → Prop} (hk : ∀ a i t, k a i t → k' a i t → k2 a i t) (h : mj_aldw j st G k) (h' : mj_aldw j st G k') : mj_aldw j st G k2 := an_i1 (fun _ _ h h' => an_a1 (fun _ _ h h' => an_iw (fun _ _ h h' => ⟨h.1, h.2.1, hk _ _ _ h.2.2 h'.2.2⟩) h h') h h') h h'
theorem an_ald2 {st : List mj_V} {G : mj_G} {k k' : Nat → Nat → List mj_V → Prop} (h : mj_ald 1 st G k) (h' : mj_ald 2 st G k') : False := by
  obtain ⟨i, t, rfl, h⟩ := mj_i1_e h
  obtain ⟨a, t, rfl, tt, n, h1, h2, -⟩ := mj_a1_e h
  obtain ⟨t', n', h1', h2', -⟩ := h'
  rw [h1] at h1'
  have := (Prod.mk.inj h1').1
  omega
theorem an_aldw2 {st : List mj_V} {G : mj_G} {k k' : Nat → Nat → List mj_V → Prop} (h : mj_aldw 1 st G k) (h' : mj_aldw 2 st G k') : False := by
  obtain ⟨i, t, rfl, h⟩ := mj_i1_e h
  obtain ⟨a, t, rfl, tt, n, h1, h2, -⟩ := mj_a1_e h
  obtain ⟨t', n', h1', h2', -⟩ := h'
  rw [h1] at h1'
  have := (Prod.mk.inj h1').1
  omega
theorem an_bin {f : Int → Int → Int} {g : Int32 → Int32 → Int32} {st : List mj_V} {k k' k2 : List mj_V → Prop} (hf : ∀ x y, Int32.ofInt (f x y) = g (Int32.ofInt x) (Int32.ofInt y)) (hk : ∀ t, k t → k' t → k2 t) (h : mj_bin f st g k) (h' : mj_bin f st g k') : mj_bin f st g k2 := by
  refine an_i1 (fun y t h h' => an_i1 (fun x t h h' => ?_) h h') h h'
  have e : mj_in (f x y) → f x y = (g (Int32.ofInt x) (Int32.ofInt y)).toInt := fun q => by rw [← hf, mj_ti q]
  rcases h with ⟨a1, a2⟩ | a2 <;> rcases h' with ⟨b1, b2⟩ | b2
  · exact Or.inl ⟨a1, hk _ a2 b2⟩
  · exact Or.inl ⟨a1, hk _ a2 (b2 _ a1 (e a1))⟩
  · exact Or.inl ⟨b1, hk _ (a2 _ b1 (e b1)) b2⟩
  · exact Or.inr (fun z hz hz2 => hk _ (a2 z hz hz2) (b2 z hz hz2))
theorem an_cpy {j : Nat} {st : List mj_V} {G : mj_G} {k k' k2 : Nat → Nat → Nat → Nat → Nat → List mj_V → Prop} (hk : ∀ a b c d e t, k a b c d e t → k' a b c d e t → k2 a b c d e t) (h : mj_cpy j st G k) (h' : mj_cpy j st G k') : mj_cpy j st G k2 :=
  an_i1 (fun _ _ h h' => an_i1 (fun _ _ h h' => an_a1 (fun _ _ h h' => an_i1 (fun _ _ h h' => an_a1 (fun _ _ h h' => an_is (fun _ _ h h' => an_iw (fun _ _ h h' => ⟨h.1, h.2.1, h.2.2.1, h.2.2.2.1, h.2.2.2.2.1, h.2.2.2.2.2.1, hk _ _ _ _ _ _ h.2.2.2.2.2.2 h'.2.2.2.2.2.2⟩) h h') h h') h h') h h') h h') h h') h h'
theorem an_lib {f : Nat} {st : List mj_V} {G : mj_G} {M : mj_M} {k k' k2 : List mj_V → mj_M → Prop} (hk : ∀ t M, k t M → k' t M → k2 t M) (h : mj_lib f st G M k) (h' : mj_lib f st G M k') : mj_lib f st G M k2 := by
  match f, h, h' with
  | 0, h, h' => exact an_i1 (fun _ _ h h' => an_i1 (fun _ _ h h' => ⟨h.1, fun z a b => hk _ _ (h.2 z a b) (h'.2 z a b)⟩) h h') h h'
  | 1, h, h' => exact an_i1 (fun _ _ h h' => an_i1 (fun _ _ h h' => ⟨h.1, fun z a b => hk _ _ (h.2 z a b) (h'.2 z a b)⟩) h h') h h'
  | 2, h, h' => exact an_i1 (fun _ _ h h' => ⟨h.1, fun z a b c => hk _ _ (h.2 z a b c) (h'.2 z a b c)⟩) h h'
  | 3, h, h' => exact an_cpy (k := fun a b sp dp n st => k st (mj_cp0 M a b sp dp n)) (k' := fun a b sp dp n st => k' st (mj_cp0 M a b sp dp n)) (k2 := fun a b sp dp n st => k2 st (mj_cp0 M a b sp dp n)) (fun _ _ _ _ _ _ h h' => hk _ _ h h') h h'
  | 4, h, h' => exact an_cpy (k := fun a b sp dp n st => k st (mj_cp1 M a b sp dp n)) (k' := fun a b sp dp n st => k' st (mj_cp1 M a b sp dp n)) (k2 := fun a b sp dp n st => k2 st (mj_cp1 M a b sp dp n)) (fun _ _ _ _ _ _ h h' => hk _ _ h h') h h'
  | n + 5, h, _ => exact h.elim
theorem an_rf {r : Option Nat} {k k' k2 : mj_V → Prop} (hk : ∀ v, k v → k' v → k2 v) (h : mj_rf r k) (h' : mj_rf r k') : mj_rf r k2 := ⟨fun b hb => hk _ (h.1 b hb) (h'.1 b hb), fun hb => hk _ (h.2 hb) (h'.2 hb)⟩
theorem an_br {c a a' a2 b b' b2 : Prop} (ha : a → a' → a2) (hb : b → b' → b2) (h : mj_br c a b) (h' : mj_br c a' b') : mj_br c a2 b2 := ⟨fun q => ha (h.1 q) (h'.1 q), fun q => hb (h.2 q) (h'.2 q)⟩
theorem an_get {ci fk : Nat} {st : List mj_V} {G : mj_G} {M : mj_M} {k k' k2 : List mj_V → Prop} (hk : ∀ t, k t → k' t → k2 t) (h : mj_get ci fk st G M k) (h' : mj_get ci fk st G M k') : mj_get ci fk st G M k2 := by
  unfold mj_get at *
  generalize mj_so ci fk = so at *
  refine an_a1 (fun _ _ h h' => an_is (fun _ _ h h' => ?_) h h') h h'
  match so, h, h' with
  | 0, h, h' => exact hk _ h h'
  | 1, h, h' => exact hk _ h h'
  | n + 2, h, h' => exact an_rf (fun _ h h' => hk _ h h') h h'
theorem an_gw {fk : Nat} {st : List mj_V} {G : mj_G} {k k' k2 : List mj_V → Prop} (hk : ∀ t, k t → k' t → k2 t) (h : mj_gw fk st G k) (h' : mj_gw fk st G k') : mj_gw fk st G k2 := by
  unfold mj_gw at *
  obtain ⟨a, t, rfl, tt, nn, g1, g2, h⟩ := mj_a1_e h
  obtain ⟨t', n', g1', g2', h'⟩ := h'
  obtain ⟨rfl, rfl⟩ := Prod.mk.inj (g1.symm.trans g1')
  refine ⟨tt, nn, g1, g2, ?_⟩
  match fk, h, h' with
  | 0, h, h' => exact hk _ h h'
  | n + 1, h, h' => exact hk _ h h'
theorem an_put {ci fk : Nat} {st : List mj_V} {G : mj_G} {M : mj_M} {k k' k2 : List mj_V → mj_M → Prop} (hk : ∀ t M, k t M → k' t M → k2 t M) (h : mj_put ci fk st G M k) (h' : mj_put ci fk st G M k') : mj_put ci fk st G M k2 := by
  unfold mj_put at *
  generalize mj_so ci fk = so at *
  match so, h, h' with
  | 0, h, h' => exact an_i1 (fun _ _ h h' => an_a1 (fun _ _ h h' => an_iw (fun _ _ h h' => ⟨h.1, hk _ _ h.2 h'.2⟩) h h') h h') h h'
  | 1, h, h' => exact an_l1 (fun _ _ h h' => an_a1 (fun _ _ h h' => an_iw (fun _ _ h h' => hk _ _ h h') h h') h h') h h'
  | n + 2, h, h' => exact an_r1 (fun _ _ h h' => an_a1 (fun _ _ h h' => an_iw (fun _ _ h h' => hk _ _ h h') h h') h h') h h'
set_option maxHeartbeats 4000000 in
theorem an_x {ok : Nat → Bool} {mcs : Nat → Nat × Nat} {C : mj_C} {full : List mj_E} {Q Q' : mj_P} {K K' : mj_S} (hM : mj_mo C) (hC : an_C ok C) (hf : ∀ x ∈ full, an_nz ok x = true) (rest : List mj_E) (hr : ∀ x ∈ rest, an_nz ok x = true) (L : mj_L) (st : List mj_V) (G : mj_G) (M : mj_M) (cb sb : Nat)
    (h : mj_x mcs C full Q K 1 rest L st G M cb sb) (h' : mj_x mcs C full Q' K' 1 rest L st G M cb sb) : mj_x mcs C full (fun r G M => Q r G M ∧ Q' r G M) (fun rest L st G M cb sb => (∀ x ∈ rest, an_nz ok x = true) ∧ K rest L st G M cb sb ∧ K' rest L st G M cb sb) 1 rest L st G M cb sb := by
  cases rest with
  | nil => exact h
  | cons x rest =>
    obtain ⟨ins, pc, aux, imm⟩ := x
    have ht : ∀ x ∈ rest, an_nz ok x = true := fun x hx => hr x (List.mem_cons_of_mem _ hx)
    have hd : ∀ t, ∀ x ∈ full.drop t, an_nz ok x = true := fun t x hx => hf x (List.mem_of_mem_drop hx)
    have h0 := hr _ List.mem_cons_self
    cases ins
    case iload_n k =>
      exact an_ldi (k := fun v => K rest L (v :: st) G M cb sb) (k' := fun v => K' rest L (v :: st) G M cb sb) (k2 := fun v => (∀ x ∈ rest, an_nz ok x = true) ∧ K rest L (v :: st) G M cb sb ∧ K' rest L (v :: st) G M cb sb) (i := k.val) (fun _ h h' => ⟨ht, h, h'⟩) h h'
    case iload k =>
      exact an_ldi (k := fun v => K rest L (v :: st) G M cb sb) (k' := fun v => K' rest L (v :: st) G M cb sb) (k2 := fun v => (∀ x ∈ rest, an_nz ok x = true) ∧ K rest L (v :: st) G M cb sb ∧ K' rest L (v :: st) G M cb sb) (i := k) (fun _ h h' => ⟨ht, h, h'⟩) h h'
    case lload_n k =>
      exact an_ldl (k := fun v => K rest L (v :: st) G M cb sb) (k' := fun v => K' rest L (v :: st) G M cb sb) (k2 := fun v => (∀ x ∈ rest, an_nz ok x = true) ∧ K rest L (v :: st) G M cb sb ∧ K' rest L (v :: st) G M cb sb) (i := k.val) (fun _ h h' => ⟨ht, h, h'⟩) h h'
    case lload k =>
      exact an_ldl (k := fun v => K rest L (v :: st) G M cb sb) (k' := fun v => K' rest L (v :: st) G M cb sb) (k2 := fun v => (∀ x ∈ rest, an_nz ok x = true) ∧ K rest L (v :: st) G M cb sb ∧ K' rest L (v :: st) G M cb sb) (i := k) (fun _ h h' => ⟨ht, h, h'⟩) h h'
    case aload_n k =>
      exact an_lda (k := fun v => K rest L (v :: st) G M cb sb) (k' := fun v => K' rest L (v :: st) G M cb sb) (k2 := fun v => (∀ x ∈ rest, an_nz ok x = true) ∧ K rest L (v :: st) G M cb sb ∧ K' rest L (v :: st) G M cb sb) (i := k.val) (fun _ h h' => ⟨ht, h, h'⟩) h h'
    case aload k =>
      exact an_lda (k := fun v => K rest L (v :: st) G M cb sb) (k' := fun v => K' rest L (v :: st) G M cb sb) (k2 := fun v => (∀ x ∈ rest, an_nz ok x = true) ∧ K rest L (v :: st) G M cb sb ∧ K' rest L (v :: st) G M cb sb) (i := k) (fun _ h h' => ⟨ht, h, h'⟩) h h'
    case istore_n k =>
      exact an_i1 (fun _ _ h h' => ⟨ht, h, h'⟩) h h'
    case istore k =>
      exact an_i1 (fun _ _ h h' => ⟨ht, h, h'⟩) h h'
    case lstore_n k =>
      exact an_l1 (fun _ _ h h' => ⟨ht, h, h'⟩) h h'
    case lstore k =>
      exact an_l1 (fun _ _ h h' => ⟨ht, h, h'⟩) h h'
    case astore_n k =>
      exact an_r1 (fun _ _ h h' => ⟨ht, h, h'⟩) h h'
    case astore k =>
      exact an_r1 (fun _ _ h h' => ⟨ht, h, h'⟩) h h'
    case iinc k c =>
      refine an_ldi (L := L) (i := k) (k := fun v => mj_i1 [v] fun z _ => (mj_in (z + c) ∧ K rest (mj_s1 L k (.inl (z + c))) st G M cb sb) ∨ ∀ q, mj_in q → q = (Int32.ofInt z + Int32.ofInt c).toInt → K rest (mj_s1 L k (.inl q)) st G M cb sb) (k' := fun v => mj_i1 [v] fun z _ => (mj_in (z + c) ∧ K' rest (mj_s1 L k (.inl (z + c))) st G M cb sb) ∨ ∀ q, mj_in q → q = (Int32.ofInt z + Int32.ofInt c).toInt → K' rest (mj_s1 L k (.inl q)) st G M cb sb) (k2 := fun v => mj_i1 [v] fun z _ => (mj_in (z + c) ∧ (∀ x ∈ rest, an_nz ok x = true) ∧ K rest (mj_s1 L k (.inl (z + c))) st G M cb sb ∧ K' rest (mj_s1 L k (.inl (z + c))) st G M cb sb) ∨ ∀ q, mj_in q → q = (Int32.ofInt z + Int32.ofInt c).toInt → (∀ x ∈ rest, an_nz ok x = true) ∧ K rest (mj_s1 L k (.inl q)) st G M cb sb ∧ K' rest (mj_s1 L k (.inl q)) st G M cb sb) (fun x a b => ?_) h h'
      have e : mj_in (x + c) → x + c = (Int32.ofInt x + Int32.ofInt c).toInt := fun q => by rw [← Int32.ofInt_add, mj_ti q]
      have a : (mj_in (x + c) ∧ K rest (mj_s1 L k (.inl (x + c))) st G M cb sb) ∨ ∀ q, mj_in q → q = (Int32.ofInt x + Int32.ofInt c).toInt → K rest (mj_s1 L k (.inl q)) st G M cb sb := a
      have b : (mj_in (x + c) ∧ K' rest (mj_s1 L k (.inl (x + c))) st G M cb sb) ∨ ∀ q, mj_in q → q = (Int32.ofInt x + Int32.ofInt c).toInt → K' rest (mj_s1 L k (.inl q)) st G M cb sb := b
      rcases a with ⟨a1, a2⟩ | a2 <;> rcases b with ⟨b1, b2⟩ | b2
      · exact Or.inl ⟨a1, ht, a2, b2⟩
      · exact Or.inl ⟨a1, ht, a2, b2 _ a1 (e a1)⟩
      · exact Or.inl ⟨b1, ht, a2 _ b1 (e b1), b2⟩
      · exact Or.inr (fun z hz hz2 => ⟨ht, a2 z hz hz2, b2 z hz hz2⟩)
    case iconst z =>
      exact ⟨ht, h, h'⟩
    case bipush z =>
      exact ⟨ht, h, h'⟩
    case sipush z =>
      exact ⟨ht, h, h'⟩
    case ldc z =>
      exact ⟨ht, h, h'⟩
    case ldc2_w z =>
      exact ⟨ht, h, h'⟩
    case lconst z =>
      exact ⟨ht, h, h'⟩
    case aconst_null =>
      exact ⟨ht, h, h'⟩
    case ldc_w z =>
      exact ⟨ht, h, h'⟩
    case goto z =>
      exact ⟨hd _, h, h'⟩
    case iadd =>
      exact an_bin (f := fun x y => x + y) (g := fun x y => x + y) (k := fun st => K rest L st G M cb sb) (k' := fun st => K' rest L st G M cb sb) (k2 := fun st => (∀ x ∈ rest, an_nz ok x = true) ∧ K rest L st G M cb sb ∧ K' rest L st G M cb sb) (fun x y => Int32.ofInt_add x y) (fun _ h h' => ⟨ht, h, h'⟩) h h'
    case isub =>
      exact an_bin (f := fun x y => x - y) (g := fun x y => x - y) (k := fun st => K rest L st G M cb sb) (k' := fun st => K' rest L st G M cb sb) (k2 := fun st => (∀ x ∈ rest, an_nz ok x = true) ∧ K rest L st G M cb sb ∧ K' rest L st G M cb sb) (fun x y => Int32.ofInt_sub x y) (fun _ h h' => ⟨ht, h, h'⟩) h h'
    case imul =>
      exact an_bin (f := fun x y => x * y) (g := fun x y => x * y) (k := fun st => K rest L st G M cb sb) (k' := fun st => K' rest L st G M cb sb) (k2 := fun st => (∀ x ∈ rest, an_nz ok x = true) ∧ K rest L st G M cb sb ∧ K' rest L st G M cb sb) (fun x y => Int32.ofInt_mul x y) (fun _ h h' => ⟨ht, h, h'⟩) h h'
    case iand =>
      exact an_i1 (fun _ _ h h' => an_i1 (fun _ _ h h' z a b => ⟨ht, h z a b, h' z a b⟩) h h') h h'
    case ior =>
      exact an_i1 (fun _ _ h h' => an_i1 (fun _ _ h h' z a b => ⟨ht, h z a b, h' z a b⟩) h h') h h'
    case ishl =>
      exact an_i1 (fun _ _ h h' => an_i1 (fun _ _ h h' z a b => ⟨ht, h z a b, h' z a b⟩) h h') h h'
    case ishr =>
      exact an_i1 (fun _ _ h h' => an_i1 (fun _ _ h h' z a b => ⟨ht, h z a b, h' z a b⟩) h h') h h'
    case iushr =>
      exact an_i1 (fun _ _ h h' => an_i1 (fun _ _ h h' z a b => ⟨ht, h z a b, h' z a b⟩) h h') h h'
    case ineg =>
      exact an_i1 (fun _ _ h h' z a b => ⟨ht, h z a b, h' z a b⟩) h h'
    case i2b =>
      exact an_i1 (fun _ _ h h' z a b => ⟨ht, h z a b, h' z a b⟩) h h'
    case dup =>
      exact an_c1 (k := fun v st => K rest L (v :: v :: st) G M cb sb) (k' := fun v st => K' rest L (v :: v :: st) G M cb sb) (k2 := fun v st => (∀ x ∈ rest, an_nz ok x = true) ∧ K rest L (v :: v :: st) G M cb sb ∧ K' rest L (v :: v :: st) G M cb sb) (fun _ _ h h' => ⟨ht, h, h'⟩) h h'
    case pop =>
      exact an_c1 (k := fun _ st => K rest L st G M cb sb) (k' := fun _ st => K' rest L st G M cb sb) (k2 := fun _ st => (∀ x ∈ rest, an_nz ok x = true) ∧ K rest L st G M cb sb ∧ K' rest L st G M cb sb) (fun _ _ h h' => ⟨ht, h, h'⟩) h h'
    case dup2 =>
      exact an_c1 (k := fun v st => mj_c1 st fun w st => K rest L (v :: w :: v :: w :: st) G M cb sb) (k' := fun v st => mj_c1 st fun w st => K' rest L (v :: w :: v :: w :: st) G M cb sb) (k2 := fun v st => mj_c1 st fun w st => (∀ x ∈ rest, an_nz ok x = true) ∧ K rest L (v :: w :: v :: w :: st) G M cb sb ∧ K' rest L (v :: w :: v :: w :: st) G M cb sb) (fun _ _ h h' => an_c1 (fun _ _ h h' => ⟨ht, h, h'⟩) h h') h h'
    case ifCond c o =>
      exact an_i1 (fun _ _ h h' => an_br (fun h h' => ⟨hd _, h, h'⟩) (fun h h' => ⟨ht, h, h'⟩) h h') h h'
    case if_icmp c o =>
      exact an_i1 (fun _ _ h h' => an_i1 (fun _ _ h h' => an_br (fun h h' => ⟨hd _, h, h'⟩) (fun h h' => ⟨ht, h, h'⟩) h h') h h') h h'
    case if_acmp c o =>
      exact an_r1 (fun _ _ h h' => an_r1 (fun _ _ h h' => an_br (fun h h' => ⟨hd _, h, h'⟩) (fun h h' => ⟨ht, h, h'⟩) h h') h h') h h'
    case ifnull o =>
      exact an_r1 (fun _ _ h h' => an_br (fun h h' => ⟨hd _, h, h'⟩) (fun h h' => ⟨ht, h, h'⟩) h h') h h'
    case ifnonnull o =>
      exact an_r1 (fun _ _ h h' => an_br (fun h h' => ⟨hd _, h, h'⟩) (fun h h' => ⟨ht, h, h'⟩) h h') h h'
    case tableswitch df lo hi offs =>
      exact an_i1 (fun _ _ h h' => ⟨fun q => ⟨hd _, h.1 q, h'.1 q⟩, an_sw (fun t h h' => ⟨hd t, h, h'⟩) _ _ h.2 h'.2⟩) h h'
    case getfield k =>
      exact ⟨h.1, an_br (fun h h' => an_gw (fun _ h h' => ⟨ht, h, h'⟩) h h') (fun h h' => an_get (fun _ h h' => ⟨ht, h, h'⟩) h h') h.2 h'.2⟩
    case putfield k =>
      exact ⟨h.1, an_put (k := fun st M => K rest L st G M cb sb) (k' := fun st M => K' rest L st G M cb sb) (k2 := fun st M => (∀ x ∈ rest, an_nz ok x = true) ∧ K rest L st G M cb sb ∧ K' rest L st G M cb sb) (fun _ _ h h' => ⟨ht, h, h'⟩) h.2 h'.2⟩
    case iaload =>
      exact an_ald (k := fun a i st => K rest L (.inl (M.1 a i) :: st) G M cb sb) (k' := fun a i st => K' rest L (.inl (M.1 a i) :: st) G M cb sb) (k2 := fun a i st => (∀ x ∈ rest, an_nz ok x = true) ∧ K rest L (.inl (M.1 a i) :: st) G M cb sb ∧ K' rest L (.inl (M.1 a i) :: st) G M cb sb) (fun _ _ _ h h' => ⟨ht, h, h'⟩) h h'
    case laload =>
      exact an_ald (k := fun a i st => K rest L (.inr (.inl (M.2.1 a i)) :: st) G M cb sb) (k' := fun a i st => K' rest L (.inr (.inl (M.2.1 a i)) :: st) G M cb sb) (k2 := fun a i st => (∀ x ∈ rest, an_nz ok x = true) ∧ K rest L (.inr (.inl (M.2.1 a i)) :: st) G M cb sb ∧ K' rest L (.inr (.inl (M.2.1 a i)) :: st) G M cb sb) (fun _ _ _ h h' => ⟨ht, h, h'⟩) h h'
    case baload =>
      rcases (show mj_bald st G (fun a i st => K rest L (.inl (M.1 a i) :: st) G M cb sb) from h) with h | h <;> rcases (show mj_bald st G (fun a i st => K' rest L (.inl (M.1 a i) :: st) G M cb sb) from h') with h' | h'
      · exact Or.inl (an_ald (k := fun a i st => K rest L (.inl (M.1 a i) :: st) G M cb sb) (k' := fun a i st => K' rest L (.inl (M.1 a i) :: st) G M cb sb) (k2 := fun a i st => (∀ x ∈ rest, an_nz ok x = true) ∧ K rest L (.inl (M.1 a i) :: st) G M cb sb ∧ K' rest L (.inl (M.1 a i) :: st) G M cb sb) (fun _ _ _ h h' => ⟨ht, h, h'⟩) h h')
      · exact (an_ald2 h h').elim
      · exact (an_ald2 h' h).elim
      · exact Or.inr (an_ald (k := fun a i st => K rest L (.inl (M.1 a i) :: st) G M cb sb) (k' := fun a i st => K' rest L (.inl (M.1 a i) :: st) G M cb sb) (k2 := fun a i st => (∀ x ∈ rest, an_nz ok x = true) ∧ K rest L (.inl (M.1 a i) :: st) G M cb sb ∧ K' rest L (.inl (M.1 a i) :: st) G M cb sb) (fun _ _ _ h h' => ⟨ht, h, h'⟩) h h')
    case aaload =>
      exact an_ald (k := fun a i st => mj_rf (M.2.2 a i) fun v => K rest L (v :: st) G M cb sb) (k' := fun a i st => mj_rf (M.2.2 a i) fun v => K' rest L (v :: st) G M cb sb) (k2 := fun a i st => mj_rf (M.2.2 a i) fun v => (∀ x ∈ rest, an_nz ok x = true) ∧ K rest L (v :: st) G M cb sb ∧ K' rest L (v :: st) G M cb sb) (fun _ _ _ h h' => an_rf (fun _ h h' => ⟨ht, h, h'⟩) h h') h h'
    case iastore =>
      exact an_i1 (fun _ _ h h' => an_aldw (fun _ _ _ h h' => ⟨ht, h, h'⟩) h h') h h'
    case lastore =>
      exact an_l1 (fun _ _ h h' => an_aldw (fun _ _ _ h h' => ⟨ht, h, h'⟩) h h') h h'
    case bastore =>
      refine an_i1 (fun z t h h' => ?_) h h'
      rcases h with h | ⟨hz, h⟩ <;> rcases h' with h' | ⟨hz', h'⟩
      · exact Or.inl (an_aldw (fun _ _ _ h h' => ⟨ht, h, h'⟩) h h')
      · exact (an_aldw2 h h').elim
      · exact (an_aldw2 h' h).elim
      · exact Or.inr ⟨hz, an_aldw (fun _ _ _ h h' => ⟨ht, h, h'⟩) h h'⟩
    case aastore =>
      exact an_r1 (fun _ _ h h' => an_aldw (fun _ _ _ h h' => ⟨h.1, ht, h.2, h'.2⟩) h h') h h'
    case arraylength =>
      refine an_a1 (fun a t h h' => ?_) h h'
      obtain ⟨tt, k, j, h1, h2, h3, h4, u⟩ := h
      obtain ⟨tt', k', j', h1', h2', h3', h4', u'⟩ := h'
      obtain ⟨rfl, rfl⟩ := Prod.mk.inj (h1.symm.trans h1')
      exact ⟨tt, k, j, h1, h2, h3, h4, ht, u, u'⟩
    case newarray a =>
      cases h0
    case anewarray a =>
      cases h0
    case multianewarray a b =>
      cases h0
    case new k =>
      cases h0
    case invokevirtual k =>
      exact ⟨h.1, an_pop _ _ _ (fun As t h h' => an_a1 (fun a t h h' => an_is (fun _ _ h h' => ⟨h.1, h.2.1, h.2.2.1, hM _ _ _ _ _ _ (fun r G M q => ⟨ht, q.1, q.2⟩) (hC _ _ _ _ _ _ h0 h.2.2.2 h'.2.2.2)⟩) h h') h h') h.2 h'.2⟩
    case invokestatic k =>
      match aux, h, h', h0 with
      | [f, u], h, h', h0 => exact an_lib (k := fun st M => K rest L st G M cb sb) (k' := fun st M => K' rest L st G M cb sb) (k2 := fun st M => (∀ x ∈ rest, an_nz ok x = true) ∧ K rest L st G M cb sb ∧ K' rest L st G M cb sb) (fun _ _ h h' => ⟨ht, h, h'⟩) h h'
      | [], h, h', h0 => exact absurd rfl h.1
      | [a], h, h', h0 => exact ⟨h.1, an_pop _ _ _ (fun As t h h' => ⟨h.1, h.2.1, h.2.2.1, hM _ _ _ _ _ _ (fun r G M q => ⟨ht, q.1, q.2⟩) (hC _ _ _ _ _ _ h0 h.2.2.2 h'.2.2.2)⟩) h.2 h'.2⟩
      | a :: b :: c :: aux, h, h', h0 => exact ⟨h.1, an_pop _ _ _ (fun As t h h' => ⟨h.1, h.2.1, h.2.2.1, hM _ _ _ _ _ _ (fun r G M q => ⟨ht, q.1, q.2⟩) (hC _ _ _ _ _ _ h0 h.2.2.2 h'.2.2.2)⟩) h.2 h'.2⟩
    case invokespecial k =>
      match aux, h, h', h0 with
      | [], h, h', h0 => exact an_a1 (fun _ _ h h' => ⟨h.1, ht, h.2, h'.2⟩) h h'
      | y :: aux, h, h', h0 => exact an_pop _ _ _ (fun As t h h' => an_a1 (fun a t h h' => an_is (fun _ _ h h' => ⟨h.1, h.2.1, h.2.2.1, hM _ _ _ _ _ _ (fun r G M q => ⟨ht, q.1, q.2⟩) (hC _ _ _ _ _ _ h0 h.2.2.2 h'.2.2.2)⟩) h h') h h') h h'
    case ireturn =>
      exact an_i1 (fun _ _ h h' => ⟨h.1, h.2.1, h.2.2, h'.2.2⟩) h h'
    case return_ =>
      exact ⟨h.1, h.2, h'.2⟩
    case areturn =>
      exact an_r1 (fun _ _ h h' => ⟨h.1, h.2, h'.2⟩) h h'
    case idiv =>
      exact an_i1 (fun _ _ h h' => an_i1 (fun _ _ h h' => ⟨h.1, fun z a b => ⟨ht, h.2 z a b, h'.2 z a b⟩⟩) h h') h h'
    case irem =>
      exact an_i1 (fun _ _ h h' => an_i1 (fun _ _ h h' => ⟨h.1, fun z a b => ⟨ht, h.2 z a b, h'.2 z a b⟩⟩) h h') h h'
    case lor =>
      exact an_l1 (fun _ _ h h' => an_l1 (fun _ _ h h' => ⟨ht, h, h'⟩) h h') h h'
    case land =>
      exact an_l1 (fun _ _ h h' => an_l1 (fun _ _ h h' => ⟨ht, h, h'⟩) h h') h h'
    case lshl =>
      exact an_i1 (fun _ _ h h' => an_l1 (fun _ _ h h' => ⟨ht, h, h'⟩) h h') h h'
    case lshr =>
      exact an_i1 (fun _ _ h h' => an_l1 (fun _ _ h h' => ⟨ht, h, h'⟩) h h') h h'
    case lcmp =>
      exact an_l1 (fun _ _ h h' => an_l1 (fun _ _ h h' z a b => ⟨ht, h z a b, h' z a b⟩) h h') h h'
    case i2l =>
      exact an_i1 (fun _ _ h h' => ⟨ht, h, h'⟩) h h'
    case l2i =>
      exact an_l1 (fun _ _ h h' z a b => ⟨ht, h z a b, h' z a b⟩) h h'
    case getstatic k =>
      exact ⟨h.1, fun a q => ⟨ht, h.2 a q, h'.2 a q⟩⟩
    all_goals exact h
theorem an_W {ok : Nat → Bool} {mcs : Nat → Nat × Nat} {C : mj_C} {full : List mj_E} {Q Q' : mj_P} (hM : mj_mo C) (hC : an_C ok C) (hf : ∀ x ∈ full, an_nz ok x = true) {rest : List mj_E} {L : mj_L} {st : List mj_V} {G : mj_G} {M : mj_M} {cb sb : Nat} (hr : ∀ x ∈ rest, an_nz ok x = true) (h : mj_W mcs C full Q rest L st G M cb sb) (h' : mj_W mcs C full Q' rest L st G M cb sb) : mj_W mcs C full (fun r G M => Q r G M ∧ Q' r G M) rest L st G M cb sb := by
  refine h (fun rest L st G M cb sb => (∀ x ∈ rest, an_nz ok x = true) → mj_W mcs C full Q' rest L st G M cb sb → mj_W mcs C full (fun r G M => Q r G M ∧ Q' r G M) rest L st G M cb sb) (fun rest L st G M cb sb h hr h' => ?_) hr h'
  exact mj_W.step hM (mj_x_m hM (fun _ _ _ q => q) (fun _ _ _ _ _ _ _ q => q.2.1 q.1 q.2.2) 1 _ _ _ _ _ _ _ (an_x hM hC hf _ hr _ _ _ _ _ _ h (mj_W.out hM h')))
/-- methods that make nothing, and call none that does, n deep -/
def an_ok (T : Nat → mj_T) : Nat → Nat → Bool
  | 0, _ => false
  | n + 1, y => (T y).2.2.2.2.1.all (an_nz (an_ok T n))
theorem an_R (T : Nat → mj_T) : ∀ d, an_C (fun y => an_ok T d y) (mj_R T d)
  | 0 => fun _ _ _ _ _ _ h _ _ => by cases h
  | d + 1 => fun y av G M R R' h h1 h2 => ⟨h1.1, an_W (ok := an_ok T d) (mj_R_mo T d) (an_R T d) (fun x hx => List.all_eq_true.mp h x hx) (fun x hx => List.all_eq_true.mp h x hx) h1.2 h2.2⟩
end
section
/-! ===== rows of the small machine for proofs by hand, a lemma an instruction ===== -/
abbrev wz (d : Nat) (full : List mj_E) (Q : mj_P) : mj_S := mj_W sx_ms (mj_R mj_tab d) full Q
section WZ
variable {d : Nat} {full : List mj_E} {Q : mj_P} {rest : List mj_E} {L : mj_L} {st : List mj_V} {G : mj_G} {M : mj_M} {cb sb pc : Nat} {aux : List Nat} {im : Int}
theorem wz_st (h : mj_x sx_ms (mj_R mj_tab d) full Q (wz d full Q) 1 rest L st G M cb sb) : wz d full Q rest L st G M cb sb := mj_W.run (mj_R_mo _ _) 1 h
theorem w_iln {k : Fin 4} {z : Int} (h : mj_nt L k.val = some (.inl z)) (kk : wz d full Q rest L (.inl z :: st) G M cb sb) : wz d full Q ((.iload_n k, pc, aux, im) :: rest) L st G M cb sb := by
  refine wz_st ?_
  show mj_ldi L k.val fun v => wz d full Q rest L (v :: st) G M cb sb
  unfold mj_ldi; rw [h]; exact kk
theorem w_il {k : Nat} {z : Int} (h : mj_nt L k = some (.inl z)) (kk : wz d full Q rest L (.inl z :: st) G M cb sb) : wz d full Q ((.iload k, pc, aux, im) :: rest) L st G M cb sb := by
  refine wz_st ?_
  show mj_ldi L k fun v => wz d full Q rest L (v :: st) G M cb sb
  unfold mj_ldi; rw [h]; exact kk
theorem w_aln {k : Fin 4} {r : Option Nat} (h : mj_nt L k.val = some (.inr (.inr r))) (kk : wz d full Q rest L (.inr (.inr r) :: st) G M cb sb) : wz d full Q ((.aload_n k, pc, aux, im) :: rest) L st G M cb sb := by
  refine wz_st ?_
  show mj_lda L k.val fun v => wz d full Q rest L (v :: st) G M cb sb
  unfold mj_lda; rw [h]; exact kk
theorem w_al {k : Nat} {r : Option Nat} (h : mj_nt L k = some (.inr (.inr r))) (kk : wz d full Q rest L (.inr (.inr r) :: st) G M cb sb) : wz d full Q ((.aload k, pc, aux, im) :: rest) L st G M cb sb := by
  refine wz_st ?_
  show mj_lda L k fun v => wz d full Q rest L (v :: st) G M cb sb
  unfold mj_lda; rw [h]; exact kk
theorem w_lln {k : Fin 4} {z : Int64} (h : mj_nt L k.val = some (.inr (.inl z))) (kk : wz d full Q rest L (.inr (.inl z) :: st) G M cb sb) : wz d full Q ((.lload_n k, pc, aux, im) :: rest) L st G M cb sb := by
  refine wz_st ?_
  show mj_ldl L k.val fun v => wz d full Q rest L (v :: st) G M cb sb
  unfold mj_ldl; rw [h]; exact kk
theorem w_isn {k : Fin 4} {z : Int} (kk : wz d full Q rest (mj_s1 L k.val (.inl z)) st G M cb sb) : wz d full Q ((.istore_n k, pc, aux, im) :: rest) L (.inl z :: st) G M cb sb := wz_st kk
theorem w_is {k : Nat} {z : Int} (kk : wz d full Q rest (mj_s1 L k (.inl z)) st G M cb sb) : wz d full Q ((.istore k, pc, aux, im) :: rest) L (.inl z :: st) G M cb sb := wz_st kk
theorem w_asn {k : Fin 4} {r : Option Nat} (kk : wz d full Q rest (mj_s1 L k.val (.inr (.inr r))) st G M cb sb) : wz d full Q ((.astore_n k, pc, aux, im) :: rest) L (.inr (.inr r) :: st) G M cb sb := wz_st kk
theorem w_as {k : Nat} {r : Option Nat} (kk : wz d full Q rest (mj_s1 L k (.inr (.inr r))) st G M cb sb) : wz d full Q ((.astore k, pc, aux, im) :: rest) L (.inr (.inr r) :: st) G M cb sb := wz_st kk
theorem w_ii {k : Nat} {c z : Int} (h : mj_nt L k = some (.inl z)) (hi : mj_in (z + c)) (kk : wz d full Q rest (mj_s1 L k (.inl (z + c))) st G M cb sb) : wz d full Q ((.iinc k c, pc, aux, im) :: rest) L st G M cb sb := by
  refine wz_st ?_
  show mj_ldi L k fun v => mj_i1 [v] fun z _ => (mj_in (z + c) ∧ wz d full Q rest (mj_s1 L k (.inl (z + c))) st G M cb sb) ∨ ∀ q, mj_in q → q = (Int32.ofInt z + Int32.ofInt c).toInt → wz d full Q rest (mj_s1 L k (.inl q)) st G M cb sb
  unfold mj_ldi; rw [h]; exact Or.inl ⟨hi, kk⟩
theorem w_ic {z : Int} (kk : wz d full Q rest L (.inl z :: st) G M cb sb) : wz d full Q ((.iconst z, pc, aux, im) :: rest) L st G M cb sb := wz_st kk
theorem w_bp {z : Int} (kk : wz d full Q rest L (.inl z :: st) G M cb sb) : wz d full Q ((.bipush z, pc, aux, im) :: rest) L st G M cb sb := wz_st kk
theorem w_sp {z : Int} (kk : wz d full Q rest L (.inl z :: st) G M cb sb) : wz d full Q ((.sipush z, pc, aux, im) :: rest) L st G M cb sb := wz_st kk
theorem w_lc {z : Fin 2} (kk : wz d full Q rest L (.inr (.inl (Int64.ofNat z.val)) :: st) G M cb sb) : wz d full Q ((.lconst z, pc, aux, im) :: rest) L st G M cb sb := wz_st kk
theorem w_l2 {k : Nat} (kk : wz d full Q rest L (.inr (.inl (Int64.ofInt im)) :: st) G M cb sb) : wz d full Q ((.ldc2_w k, pc, aux, im) :: rest) L st G M cb sb := wz_st kk
theorem w_nu (kk : wz d full Q rest L (.inr (.inr none) :: st) G M cb sb) : wz d full Q ((.aconst_null, pc, aux, im) :: rest) L st G M cb sb := wz_st kk
theorem w_add {x y : Int} (hi : mj_in (x + y)) (kk : wz d full Q rest L (.inl (x + y) :: st) G M cb sb) : wz d full Q ((.iadd, pc, aux, im) :: rest) L (.inl y :: .inl x :: st) G M cb sb := wz_st (Or.inl ⟨hi, kk⟩)
theorem w_sub {x y : Int} (hi : mj_in (x - y)) (kk : wz d full Q rest L (.inl (x - y) :: st) G M cb sb) : wz d full Q ((.isub, pc, aux, im) :: rest) L (.inl y :: .inl x :: st) G M cb sb := wz_st (Or.inl ⟨hi, kk⟩)
theorem w_mul {x y : Int} (hi : mj_in (x * y)) (kk : wz d full Q rest L (.inl (x * y) :: st) G M cb sb) : wz d full Q ((.imul, pc, aux, im) :: rest) L (.inl y :: .inl x :: st) G M cb sb := wz_st (Or.inl ⟨hi, kk⟩)
/-- those that wrap: any value that is so -/
theorem w_addw {x y : Int} (kk : ∀ z, mj_in z → z = (Int32.ofInt x + Int32.ofInt y).toInt → wz d full Q rest L (.inl z :: st) G M cb sb) : wz d full Q ((.iadd, pc, aux, im) :: rest) L (.inl y :: .inl x :: st) G M cb sb := wz_st (Or.inr kk)
theorem w_subw {x y : Int} (kk : ∀ z, mj_in z → z = (Int32.ofInt x - Int32.ofInt y).toInt → wz d full Q rest L (.inl z :: st) G M cb sb) : wz d full Q ((.isub, pc, aux, im) :: rest) L (.inl y :: .inl x :: st) G M cb sb := wz_st (Or.inr kk)
theorem w_mulw {x y : Int} (kk : ∀ z, mj_in z → z = (Int32.ofInt x * Int32.ofInt y).toInt → wz d full Q rest L (.inl z :: st) G M cb sb) : wz d full Q ((.imul, pc, aux, im) :: rest) L (.inl y :: .inl x :: st) G M cb sb := wz_st (Or.inr kk)
theorem w_and {x y : Int} (kk : ∀ z, mj_in z → z = (Int32.ofInt x &&& Int32.ofInt y).toInt → wz d full Q rest L (.inl z :: st) G M cb sb) : wz d full Q ((.iand, pc, aux, im) :: rest) L (.inl y :: .inl x :: st) G M cb sb := wz_st kk
theorem w_or {x y : Int} (kk : ∀ z, mj_in z → z = (Int32.ofInt x ||| Int32.ofInt y).toInt → wz d full Q rest L (.inl z :: st) G M cb sb) : wz d full Q ((.ior, pc, aux, im) :: rest) L (.inl y :: .inl x :: st) G M cb sb := wz_st kk
theorem w_shl {x y : Int} (kk : ∀ z, mj_in z → z = (Int32.ofInt x <<< (Int32.ofInt y &&& 31)).toInt → wz d full Q rest L (.inl z :: st) G M cb sb) : wz d full Q ((.ishl, pc, aux, im) :: rest) L (.inl y :: .inl x :: st) G M cb sb := wz_st kk
theorem w_shr {x y : Int} (kk : ∀ z, mj_in z → z = (Int32.ofInt x >>> (Int32.ofInt y &&& 31)).toInt → wz d full Q rest L (.inl z :: st) G M cb sb) : wz d full Q ((.ishr, pc, aux, im) :: rest) L (.inl y :: .inl x :: st) G M cb sb := wz_st kk
theorem w_ushr {x y : Int} (kk : ∀ z, mj_in z → z = (((Int32.ofInt x).toUInt32 >>> ((Int32.ofInt y).toUInt32 &&& Int32.toUInt32 31)).toInt32).toInt → wz d full Q rest L (.inl z :: st) G M cb sb) : wz d full Q ((.iushr, pc, aux, im) :: rest) L (.inl y :: .inl x :: st) G M cb sb := wz_st kk
theorem w_i2b {x : Int} (kk : ∀ z, mj_in z → z = ((Int32.ofInt x).toInt8.toInt32).toInt → wz d full Q rest L (.inl z :: st) G M cb sb) : wz d full Q ((.i2b, pc, aux, im) :: rest) L (.inl x :: st) G M cb sb := wz_st kk
theorem w_i2l {x : Int} (kk : wz d full Q rest L (.inr (.inl (Int32.ofInt x).toInt64) :: st) G M cb sb) : wz d full Q ((.i2l, pc, aux, im) :: rest) L (.inl x :: st) G M cb sb := wz_st kk
theorem w_lor {x y : Int64} (kk : wz d full Q rest L (.inr (.inl (x ||| y)) :: st) G M cb sb) : wz d full Q ((.lor, pc, aux, im) :: rest) L (.inr (.inl y) :: .inr (.inl x) :: st) G M cb sb := wz_st kk
theorem w_lshl {x : Int64} {y : Int} (kk : wz d full Q rest L (.inr (.inl (x <<< ((Int32.ofInt y).toInt64 &&& 63))) :: st) G M cb sb) : wz d full Q ((.lshl, pc, aux, im) :: rest) L (.inl y :: .inr (.inl x) :: st) G M cb sb := wz_st kk
theorem w_lcmp {x y : Int64} (kk : ∀ z, mj_in z → z = (lg_cmp x y).toInt → wz d full Q rest L (.inl z :: st) G M cb sb) : wz d full Q ((.lcmp, pc, aux, im) :: rest) L (.inr (.inl y) :: .inr (.inl x) :: st) G M cb sb := wz_st kk
theorem w_dupi {v : Int} (kk : wz d full Q rest L (.inl v :: .inl v :: st) G M cb sb) : wz d full Q ((.dup, pc, aux, im) :: rest) L (.inl v :: st) G M cb sb := wz_st kk
theorem w_dupr {v : Option Nat} (kk : wz d full Q rest L (.inr (.inr v) :: .inr (.inr v) :: st) G M cb sb) : wz d full Q ((.dup, pc, aux, im) :: rest) L (.inr (.inr v) :: st) G M cb sb := wz_st kk
theorem w_dup2 {v : Int} {a : Option Nat} (kk : wz d full Q rest L (.inl v :: .inr (.inr a) :: .inl v :: .inr (.inr a) :: st) G M cb sb) : wz d full Q ((.dup2, pc, aux, im) :: rest) L (.inl v :: .inr (.inr a) :: st) G M cb sb := wz_st kk
theorem w_pop {v : Int} (kk : wz d full Q rest L st G M cb sb) : wz d full Q ((.pop, pc, aux, im) :: rest) L (.inl v :: st) G M cb sb := wz_st kk
theorem w_goto {o : Int} {t : Nat} (kk : wz d full Q (full.drop t) L st G M cb sb) : wz d full Q ((.goto o, pc, [t], im) :: rest) L st G M cb sb := wz_st kk
theorem w_ifeq {o z : Int} {t : Nat} (k1 : z = 0 → wz d full Q (full.drop t) L st G M cb sb) (k2 : z ≠ 0 → wz d full Q rest L st G M cb sb) : wz d full Q ((.ifCond .eq o, pc, [t], im) :: rest) L (.inl z :: st) G M cb sb := wz_st (And.intro k1 k2)
theorem w_ifne {o z : Int} {t : Nat} (k1 : z ≠ 0 → wz d full Q (full.drop t) L st G M cb sb) (k2 : z = 0 → wz d full Q rest L st G M cb sb) : wz d full Q ((.ifCond .ne o, pc, [t], im) :: rest) L (.inl z :: st) G M cb sb := wz_st (And.intro k1 (fun h => k2 (Decidable.not_not.mp h)))
theorem w_iflt {o z : Int} {t : Nat} (k1 : z < 0 → wz d full Q (full.drop t) L st G M cb sb) (k2 : 0 ≤ z → wz d full Q rest L st G M cb sb) : wz d full Q ((.ifCond .lt o, pc, [t], im) :: rest) L (.inl z :: st) G M cb sb := wz_st (And.intro k1 (fun h => k2 (Int.not_lt.mp h)))
theorem w_ifge {o z : Int} {t : Nat} (k1 : 0 ≤ z → wz d full Q (full.drop t) L st G M cb sb) (k2 : z < 0 → wz d full Q rest L st G M cb sb) : wz d full Q ((.ifCond .ge o, pc, [t], im) :: rest) L (.inl z :: st) G M cb sb := wz_st (And.intro k1 (fun h => k2 (Int.not_le.mp h)))
theorem w_ifgt {o z : Int} {t : Nat} (k1 : 0 < z → wz d full Q (full.drop t) L st G M cb sb) (k2 : z ≤ 0 → wz d full Q rest L st G M cb sb) : wz d full Q ((.ifCond .gt o, pc, [t], im) :: rest) L (.inl z :: st) G M cb sb := wz_st (And.intro k1 (fun h => k2 (Int.not_lt.mp h)))
theorem w_ifle {o z : Int} {t : Nat} (k1 : z ≤ 0 → wz d full Q (full.drop t) L st G M cb sb) (k2 : 0 < z → wz d full Q rest L st G M cb sb) : wz d full Q ((.ifCond .le o, pc, [t], im) :: rest) L (.inl z :: st) G M cb sb := wz_st (And.intro k1 (fun h => k2 (Int.not_le.mp h)))
theorem w_cmeq {o x y : Int} {t : Nat} (k1 : x = y → wz d full Q (full.drop t) L st G M cb sb) (k2 : x ≠ y → wz d full Q rest L st G M cb sb) : wz d full Q ((.if_icmp .eq o, pc, [t], im) :: rest) L (.inl y :: .inl x :: st) G M cb sb := wz_st (And.intro k1 k2)
theorem w_cmne {o x y : Int} {t : Nat} (k1 : x ≠ y → wz d full Q (full.drop t) L st G M cb sb) (k2 : x = y → wz d full Q rest L st G M cb sb) : wz d full Q ((.if_icmp .ne o, pc, [t], im) :: rest) L (.inl y :: .inl x :: st) G M cb sb := wz_st (And.intro k1 (fun h => k2 (Decidable.not_not.mp h)))
theorem w_cmlt {o x y : Int} {t : Nat} (k1 : x < y → wz d full Q (full.drop t) L st G M cb sb) (k2 : y ≤ x → wz d full Q rest L st G M cb sb) : wz d full Q ((.if_icmp .lt o, pc, [t], im) :: rest) L (.inl y :: .inl x :: st) G M cb sb := wz_st (And.intro k1 (fun h => k2 (Int.not_lt.mp h)))
theorem w_cmge {o x y : Int} {t : Nat} (k1 : y ≤ x → wz d full Q (full.drop t) L st G M cb sb) (k2 : x < y → wz d full Q rest L st G M cb sb) : wz d full Q ((.if_icmp .ge o, pc, [t], im) :: rest) L (.inl y :: .inl x :: st) G M cb sb := wz_st (And.intro k1 (fun h => k2 (Int.not_le.mp h)))
theorem w_cmgt {o x y : Int} {t : Nat} (k1 : y < x → wz d full Q (full.drop t) L st G M cb sb) (k2 : x ≤ y → wz d full Q rest L st G M cb sb) : wz d full Q ((.if_icmp .gt o, pc, [t], im) :: rest) L (.inl y :: .inl x :: st) G M cb sb := wz_st (And.intro k1 (fun h => k2 (Int.not_lt.mp h)))
theorem w_cmle {o x y : Int} {t : Nat} (k1 : x ≤ y → wz d full Q (full.drop t) L st G M cb sb) (k2 : y < x → wz d full Q rest L st G M cb sb) : wz d full Q ((.if_icmp .le o, pc, [t], im) :: rest) L (.inl y :: .inl x :: st) G M cb sb := wz_st (And.intro k1 (fun h => k2 (Int.not_le.mp h)))
theorem w_aceq {o : Int} {x y : Option Nat} {t : Nat} (k1 : x = y → wz d full Q (full.drop t) L st G M cb sb) (k2 : x ≠ y → wz d full Q rest L st G M cb sb) : wz d full Q ((.if_acmp .eq o, pc, [t], im) :: rest) L (.inr (.inr y) :: .inr (.inr x) :: st) G M cb sb := wz_st (And.intro k1 k2)
theorem w_acne {o : Int} {x y : Option Nat} {t : Nat} (k1 : x ≠ y → wz d full Q (full.drop t) L st G M cb sb) (k2 : x = y → wz d full Q rest L st G M cb sb) : wz d full Q ((.if_acmp .ne o, pc, [t], im) :: rest) L (.inr (.inr y) :: .inr (.inr x) :: st) G M cb sb := wz_st (And.intro k1 (fun h => k2 (Decidable.not_not.mp h)))
theorem w_ifnull {o : Int} {x : Option Nat} {t : Nat} (k1 : x = none → wz d full Q (full.drop t) L st G M cb sb) (k2 : x ≠ none → wz d full Q rest L st G M cb sb) : wz d full Q ((.ifnull o, pc, [t], im) :: rest) L (.inr (.inr x) :: st) G M cb sb := wz_st (And.intro k1 k2)
theorem w_ifnn {o : Int} {x : Option Nat} {t : Nat} (k1 : x ≠ none → wz d full Q (full.drop t) L st G M cb sb) (k2 : x = none → wz d full Q rest L st G M cb sb) : wz d full Q ((.ifnonnull o, pc, [t], im) :: rest) L (.inr (.inr x) :: st) G M cb sb := wz_st (And.intro k1 (fun h => k2 (Decidable.not_not.mp h)))
theorem w_gi {k ci fk w a t n : Nat} {v : Int} (ha : G a = (t, n)) (ht : t % 1000 = ci + 1) (h49 : ci ≠ 49) (hso : mj_so ci fk = 0) (hv : M.1 a fk = v) (kk : wz d full Q rest L (.inl v :: st) G M cb sb) : wz d full Q ((.getfield k, pc, [ci, fk, w], im) :: rest) L (.inr (.inr (some a)) :: st) G M cb sb := wz_st (hg_i (ci := ci) (fk := fk) (List.cons_ne_nil _ _) rfl h49 rfl hso ha ht hv kk)
theorem w_gr {k ci fk w a t n b : Nat} (ha : G a = (t, n)) (ht : t % 1000 = ci + 1) (h49 : ci ≠ 49) (hso : mj_so ci fk = 2) (hv : M.2.2 a fk = some b) (kk : wz d full Q rest L (.inr (.inr (some b)) :: st) G M cb sb) : wz d full Q ((.getfield k, pc, [ci, fk, w], im) :: rest) L (.inr (.inr (some a)) :: st) G M cb sb := wz_st (hg_r (ci := ci) (fk := fk) (List.cons_ne_nil _ _) rfl h49 rfl hso ha ht hv kk)
theorem w_gro {k ci fk w a t n : Nat} {o : Option Nat} (ha : G a = (t, n)) (ht : t % 1000 = ci + 1) (h49 : ci ≠ 49) (hso : mj_so ci fk = 2) (hv : M.2.2 a fk = o) (kk : wz d full Q rest L (.inr (.inr o) :: st) G M cb sb) : wz d full Q ((.getfield k, pc, [ci, fk, w], im) :: rest) L (.inr (.inr (some a)) :: st) G M cb sb := by
  refine wz_st ⟨List.cons_ne_nil _ _, fun e => absurd e h49, fun _ => ?_⟩
  refine ⟨t, n, ha, ht, ?_⟩
  show (match mj_so ci fk with
    | 0 => wz d full Q rest L (.inl (M.1 a fk) :: st) G M cb sb
    | 1 => wz d full Q rest L (.inr (.inl (M.2.1 a fk)) :: st) G M cb sb
    | _ => mj_rf (M.2.2 a fk) fun v => wz d full Q rest L (v :: st) G M cb sb)
  rw [hso]
  refine ⟨fun b hb => ?_, fun hb => ?_⟩
  · rw [← hb, hv]; exact kk
  · rw [hv] at hb; rw [hb] at kk; exact kk
theorem w_gl {k ci fk w a t n : Nat} {v : Int64} (ha : G a = (t, n)) (ht : t % 1000 = ci + 1) (h49 : ci ≠ 49) (hso : mj_so ci fk = 1) (hv : M.2.1 a fk = v) (kk : wz d full Q rest L (.inr (.inl v) :: st) G M cb sb) : wz d full Q ((.getfield k, pc, [ci, fk, w], im) :: rest) L (.inr (.inr (some a)) :: st) G M cb sb := by
  refine wz_st ⟨List.cons_ne_nil _ _, fun e => absurd e h49, fun _ => ?_⟩
  refine ⟨t, n, ha, ht, ?_⟩
  show (match mj_so ci fk with
    | 0 => wz d full Q rest L (.inl (M.1 a fk) :: st) G M cb sb
    | 1 => wz d full Q rest L (.inr (.inl (M.2.1 a fk)) :: st) G M cb sb
    | _ => mj_rf (M.2.2 a fk) fun v => wz d full Q rest L (v :: st) G M cb sb)
  rw [hso]
  show wz d full Q rest L (.inr (.inl (M.2.1 a fk)) :: st) G M cb sb
  rw [hv]; exact kk
theorem w_pi {k ci fk w a t n : Nat} {v : Int} (ha : G a = (t, n)) (ht : t % 1000 = ci + 1) (h9 : t < 900000) (hso : mj_so ci fk = 0) (hb : mj_ty ci fk = .boolean → v = 0 ∨ v = 1) (kk : wz d full Q rest L st G (mj_p0 M a fk v) cb sb) : wz d full Q ((.putfield k, pc, [ci, fk, w], im) :: rest) L (.inl v :: .inr (.inr (some a)) :: st) G M cb sb := by
  refine wz_st ⟨List.cons_ne_nil _ _, ?_⟩
  show mj_put ci fk (.inl v :: .inr (.inr (some a)) :: st) G M fun st M => wz d full Q rest L st G M cb sb
  unfold mj_put
  rw [hso]
  exact ⟨t, n, ha, ht, h9, hb, kk⟩
theorem w_pl {k ci fk w a t n : Nat} {v : Int64} (ha : G a = (t, n)) (ht : t % 1000 = ci + 1) (h9 : t < 900000) (hso : mj_so ci fk = 1) (kk : wz d full Q rest L st G (mj_p1 M a fk v) cb sb) : wz d full Q ((.putfield k, pc, [ci, fk, w], im) :: rest) L (.inr (.inl v) :: .inr (.inr (some a)) :: st) G M cb sb := by
  refine wz_st ⟨List.cons_ne_nil _ _, ?_⟩
  show mj_put ci fk (.inr (.inl v) :: .inr (.inr (some a)) :: st) G M fun st M => wz d full Q rest L st G M cb sb
  unfold mj_put
  rw [hso]
  exact ⟨t, n, ha, ht, h9, kk⟩
theorem w_pr {k ci fk w a t n : Nat} {v : Option Nat} (ha : G a = (t, n)) (ht : t % 1000 = ci + 1) (h9 : t < 900000) (hso : mj_so ci fk = 2) (kk : wz d full Q rest L st G (mj_p2 M a fk v) cb sb) : wz d full Q ((.putfield k, pc, [ci, fk, w], im) :: rest) L (.inr (.inr v) :: .inr (.inr (some a)) :: st) G M cb sb := by
  refine wz_st ⟨List.cons_ne_nil _ _, ?_⟩
  show mj_put ci fk (.inr (.inr v) :: .inr (.inr (some a)) :: st) G M fun st M => wz d full Q rest L st G M cb sb
  unfold mj_put
  rw [hso]
  exact ⟨t, n, ha, ht, h9, kk⟩
theorem w_iald {a t n : Nat} {i v : Int} (ha : G a = (t, n)) (ht : t % 1000 = 100) (h0 : 0 ≤ i) (h1 : i < n) (hv : M.1 a i.toNat = v) (kk : wz d full Q rest L (.inl v :: st) G M cb sb) : wz d full Q ((.iaload, pc, aux, im) :: rest) L (.inl i :: .inr (.inr (some a)) :: st) G M cb sb := wz_st ⟨t, n, ha, ht, h0, h1, by rw [← hv] at kk; exact kk⟩
theorem w_bald {a t n : Nat} {i v : Int} (ha : G a = (t, n)) (ht : t % 1000 = 101) (h0 : 0 ≤ i) (h1 : i < n) (hv : M.1 a i.toNat = v) (kk : wz d full Q rest L (.inl v :: st) G M cb sb) : wz d full Q ((.baload, pc, aux, im) :: rest) L (.inl i :: .inr (.inr (some a)) :: st) G M cb sb := wz_st (Or.inl ⟨t, n, ha, ht, h0, h1, by rw [← hv] at kk; exact kk⟩)
theorem w_lald {a t n : Nat} {i : Int} {v : Int64} (ha : G a = (t, n)) (ht : t % 1000 = 103) (h0 : 0 ≤ i) (h1 : i < n) (hv : M.2.1 a i.toNat = v) (kk : wz d full Q rest L (.inr (.inl v) :: st) G M cb sb) : wz d full Q ((.laload, pc, aux, im) :: rest) L (.inl i :: .inr (.inr (some a)) :: st) G M cb sb := wz_st ⟨t, n, ha, ht, h0, h1, by rw [← hv] at kk; exact kk⟩
theorem w_aald {j a t n b : Nat} {i : Int} (ha : G a = (t, n)) (ht : t % 1000 = 100 + j) (h0 : 0 ≤ i) (h1 : i < n) (hv : M.2.2 a i.toNat = some b) (kk : wz d full Q rest L (.inr (.inr (some b)) :: st) G M cb sb) : wz d full Q ((.aaload, pc, j :: aux, im) :: rest) L (.inl i :: .inr (.inr (some a)) :: st) G M cb sb := wz_st ⟨t, n, ha, ht, h0, h1, fun b' hb => by cases hv.symm.trans hb; exact kk, fun hb => by cases hv.symm.trans hb⟩
theorem w_iast {a t n : Nat} {i v : Int} (ha : G a = (t, n)) (ht : t % 1000 = 100) (h9 : t < 900000) (h0 : 0 ≤ i) (h1 : i < n) (kk : wz d full Q rest L st G (mj_p0 M a i.toNat v) cb sb) : wz d full Q ((.iastore, pc, aux, im) :: rest) L (.inl v :: .inl i :: .inr (.inr (some a)) :: st) G M cb sb := wz_st ⟨t, n, ha, ht, h9, h0, h1, kk⟩
theorem w_bast {a t n : Nat} {i v : Int} (ha : G a = (t, n)) (ht : t % 1000 = 101) (h9 : t < 900000) (h0 : 0 ≤ i) (h1 : i < n) (kk : wz d full Q rest L st G (mj_p0 M a i.toNat (mj_nb v)) cb sb) : wz d full Q ((.bastore, pc, aux, im) :: rest) L (.inl v :: .inl i :: .inr (.inr (some a)) :: st) G M cb sb := wz_st (Or.inl ⟨t, n, ha, ht, h9, h0, h1, kk⟩)
theorem w_last {a t n : Nat} {i : Int} {v : Int64} (ha : G a = (t, n)) (ht : t % 1000 = 103) (h9 : t < 900000) (h0 : 0 ≤ i) (h1 : i < n) (kk : wz d full Q rest L st G (mj_p1 M a i.toNat v) cb sb) : wz d full Q ((.lastore, pc, aux, im) :: rest) L (.inr (.inl v) :: .inl i :: .inr (.inr (some a)) :: st) G M cb sb := wz_st ⟨t, n, ha, ht, h9, h0, h1, kk⟩
theorem w_cv {y N ci w k t n a : Nat} (hm : sx_ms y = (0, 0)) (ha : G a = (t, n)) (ht : t % 1000 = ci + 1) (h8 : mj_cat st ≤ 8) {st1 : List mj_V} {As : List mj_V} (hp : ∀ kk : List mj_V → List mj_V → Prop, kk As (.inr (.inr (some a)) :: st) → mj_pop N [] st1 kk) (kk : mj_R mj_tab d y (.inr (.inr (some a)) :: As) G M fun r G M => wz d full Q rest L (mj_ret r st) G M cb sb) : wz d full Q ((.invokevirtual k, pc, [y, N, ci, w], im) :: rest) L st1 G M cb sb := by
  refine wz_st ⟨List.cons_ne_nil _ _, hp _ ?_⟩
  refine ⟨t, n, ha, ht, h8, ?_, ?_, ?_⟩
  · show (sx_ms y).1 ≤ cb
    rw [hm]; exact Nat.zero_le _
  · show (sx_ms y).2 ≤ sb
    rw [hm]; exact Nat.zero_le _
  · show mj_R mj_tab d y (.inr (.inr (some a)) :: As) G M fun r G M => wz d full Q rest L (mj_ret r st) G M (cb - (sx_ms y).1) (sb - (sx_ms y).2)
    rw [hm]
    exact kk
theorem w_cs {y N ci w k : Nat} (hm : sx_ms y = (0, 0)) (h8 : mj_cat st ≤ 8) {st1 : List mj_V} {As : List mj_V} (hp : ∀ kk : List mj_V → List mj_V → Prop, kk As st → mj_pop N [] st1 kk) (kk : mj_R mj_tab d y As G M fun r G M => wz d full Q rest L (mj_ret r st) G M cb sb) : wz d full Q ((.invokestatic k, pc, [y, N, ci, w], im) :: rest) L st1 G M cb sb := by
  refine wz_st ⟨List.cons_ne_nil _ _, hp _ ?_⟩
  refine ⟨h8, ?_, ?_, ?_⟩
  · show (sx_ms y).1 ≤ cb
    rw [hm]; exact Nat.zero_le _
  · show (sx_ms y).2 ≤ sb
    rw [hm]; exact Nat.zero_le _
  · show mj_R mj_tab d y As G M fun r G M => wz d full Q rest L (mj_ret r st) G M (cb - (sx_ms y).1) (sb - (sx_ms y).2)
    rw [hm]
    exact kk
theorem w_min {w : Nat} {k : Nat} {x y : Int} (h8 : mj_cat st ≤ 8) (kk : ∀ z, (y < x → z = y) → (¬ y < x → z = x) → wz d full Q rest L (.inl z :: st) G M cb sb) : wz d full Q ((.invokestatic k, pc, [1, w], im) :: rest) L (.inl y :: .inl x :: st) G M cb sb := wz_st ⟨h8, kk⟩
theorem w_max {w : Nat} {k : Nat} {x y : Int} (h8 : mj_cat st ≤ 8) (kk : ∀ z, (x < y → z = y) → (¬ x < y → z = x) → wz d full Q rest L (.inl z :: st) G M cb sb) : wz d full Q ((.invokestatic k, pc, [0, w], im) :: rest) L (.inl y :: .inl x :: st) G M cb sb := wz_st ⟨h8, kk⟩
theorem w_iret {z : Int} (hb : im = 1 → z = 0 ∨ z = 1) (kk : Q (some (.inl z)) G M) : wz d full Q ((.ireturn, pc, aux, im) :: rest) L [.inl z] G M cb sb := wz_st ⟨rfl, hb, kk⟩
theorem w_ret (kk : Q none G M) : wz d full Q ((.return_, pc, aux, im) :: rest) L [] G M cb sb := wz_st ⟨rfl, kk⟩
theorem w_aret {r : Option Nat} (kk : Q (some (.inr (.inr r))) G M) : wz d full Q ((.areturn, pc, aux, im) :: rest) L [.inr (.inr r)] G M cb sb := wz_st ⟨rfl, kk⟩
theorem w_gs {k w i : Nat} (kk : ∀ a, G a = mj_wt k → wz d full Q rest L (.inr (.inr (some a)) :: st) G M cb sb) : wz d full Q ((.getstatic i, pc, [k, w], im) :: rest) L st G M cb sb := wz_st ⟨List.cons_ne_nil _ _, kk⟩
theorem w_len {a t n j : Nat} (ha : G a = (t, n)) (ht : t % 1000 = 100 + j) (hj : j < 7) (hn : mj_in (n : Int)) (kk : wz d full Q rest L (.inl (n : Int) :: st) G M cb sb) : wz d full Q ((.arraylength, pc, aux, im) :: rest) L (.inr (.inr (some a)) :: st) G M cb sb := wz_st ⟨t, n, j, ha, ht, hj, hn, kk⟩
theorem w_gwc {i w a k : Nat} (ha : G a = (900050 + 1000 * k, 0)) (kk : wz d full Q rest L (.inr (.inl (mj_wc.getD k 0)) :: st) G M cb sb) : wz d full Q ((.getfield i, pc, [49, 0, w], im) :: rest) L (.inr (.inr (some a)) :: st) G M cb sb := by
  refine wz_st ⟨List.cons_ne_nil _ _, fun _ => ?_, fun e => absurd rfl e⟩
  refine ⟨900050 + 1000 * k, 0, ha, by omega, ?_⟩
  show wz d full Q rest L (.inr (.inl (mj_wc.getD ((900050 + 1000 * k - 900050) / 1000) 0)) :: st) G M cb sb
  rw [show (900050 + 1000 * k - 900050) / 1000 = k by omega]
  exact kk
theorem w_gww {i w a k : Nat} (ha : G a = (900050 + 1000 * k, 0)) (kk : wz d full Q rest L (.inl (mj_ww.getD k 0) :: st) G M cb sb) : wz d full Q ((.getfield i, pc, [49, 1, w], im) :: rest) L (.inr (.inr (some a)) :: st) G M cb sb := by
  refine wz_st ⟨List.cons_ne_nil _ _, fun _ => ?_, fun e => absurd rfl e⟩
  refine ⟨900050 + 1000 * k, 0, ha, by omega, ?_⟩
  show wz d full Q rest L (.inl (mj_ww.getD ((900050 + 1000 * k - 900050) / 1000) 0) :: st) G M cb sb
  rw [show (900050 + 1000 * k - 900050) / 1000 = k by omega]
  exact kk
end WZ
end
section
/-! ===== leaf methods of both sides: letters, digits, a byte of the tape (laid by a program) ===== -/
/-- a byte as a number from 0 to 255 -/
def rv_u8 (b : Int) : Int := (Int32.ofInt b &&& Int32.ofInt 255).toInt
theorem wz_sl {M : mj_M} {a k : Nat} {z : Int64} : (mj_p1 M a k z).2.1 a k = z := if_pos ⟨rfl, rfl⟩
theorem wz_nl {M : mj_M} {a k x j : Nat} {z : Int64} (h : x ≠ a ∨ j ≠ k) : (mj_p1 M a k z).2.1 x j = M.2.1 x j := if_neg (fun e => h.elim (fun q => q e.1) (fun q => q e.2))
theorem wz_sr {M : mj_M} {a k : Nat} {z : Option Nat} : (mj_p2 M a k z).2.2 a k = z := if_pos ⟨rfl, rfl⟩
theorem wz_nr {M : mj_M} {a k x j : Nat} {z : Option Nat} (h : x ≠ a ∨ j ≠ k) : (mj_p2 M a k z).2.2 x j = M.2.2 x j := if_neg (fun e => h.elim (fun q => q e.1) (fun q => q e.2))
theorem r_X7_isLetter {d : Nat} {v : Int} {G : mj_G} {M : mj_M} {Q : mj_P} (h1 : 97 ≤ v → v ≤ 122 → Q (some (.inl 1)) G M) (h0 : v < 97 ∨ 122 < v → Q (some (.inl 0)) G M) : mj_R mj_tab (d + 1) 74 [.inl v] G M Q := by
  refine ⟨Nat.le_of_ble_eq_true rfl, ?_⟩
  show wz d mt_X7_isLetter.2.2.2.2.1 Q mt_X7_isLetter.2.2.2.2.1 [some (.inl v)] [] G M _ _
  refine w_iln rfl ?_
  refine w_bp ?_
  refine w_cmlt (fun c1 => ?_) (fun c1 => ?_)
  · skip
    refine w_ic ?_
    exact w_iret (fun _ => Or.inl rfl) (h0 (by omega))
  · skip
    refine w_iln rfl ?_
    refine w_bp ?_
    refine w_cmgt (fun c2 => ?_) (fun c2 => ?_)
    · skip
      refine w_ic ?_
      exact w_iret (fun _ => Or.inl rfl) (h0 (by omega))
    · skip
      refine w_ic ?_
      refine w_goto ?_
      exact w_iret (fun _ => Or.inr rfl) (h1 (by omega) (by omega))
theorem r_X7_isDigit {d : Nat} {v : Int} {G : mj_G} {M : mj_M} {Q : mj_P} (h1 : 48 ≤ v → v ≤ 57 → Q (some (.inl 1)) G M) (h0 : v < 48 ∨ 57 < v → Q (some (.inl 0)) G M) : mj_R mj_tab (d + 1) 73 [.inl v] G M Q := by
  refine ⟨Nat.le_of_ble_eq_true rfl, ?_⟩
  show wz d mt_X7_isDigit.2.2.2.2.1 Q mt_X7_isDigit.2.2.2.2.1 [some (.inl v)] [] G M _ _
  refine w_iln rfl ?_
  refine w_bp ?_
  refine w_cmlt (fun c1 => ?_) (fun c1 => ?_)
  · skip
    refine w_ic ?_
    exact w_iret (fun _ => Or.inl rfl) (h0 (by omega))
  · skip
    refine w_iln rfl ?_
    refine w_bp ?_
    refine w_cmgt (fun c2 => ?_) (fun c2 => ?_)
    · skip
      refine w_ic ?_
      exact w_iret (fun _ => Or.inl rfl) (h0 (by omega))
    · skip
      refine w_ic ?_
      refine w_goto ?_
      exact w_iret (fun _ => Or.inr rfl) (h1 (by omega) (by omega))
theorem r_X12_isSmall {d : Nat} {v : Int} {G : mj_G} {M : mj_M} {Q : mj_P} (h1 : 97 ≤ v → v ≤ 122 → Q (some (.inl 1)) G M) (h0 : v < 97 ∨ 122 < v → Q (some (.inl 0)) G M) : mj_R mj_tab (d + 1) 204 [.inl v] G M Q := by
  refine ⟨Nat.le_of_ble_eq_true rfl, ?_⟩
  show wz d mt_X12_isSmall.2.2.2.2.1 Q mt_X12_isSmall.2.2.2.2.1 [some (.inl v)] [] G M _ _
  refine w_iln rfl ?_
  refine w_bp ?_
  refine w_cmlt (fun c1 => ?_) (fun c1 => ?_)
  · skip
    refine w_ic ?_
    exact w_iret (fun _ => Or.inl rfl) (h0 (by omega))
  · skip
    refine w_iln rfl ?_
    refine w_bp ?_
    refine w_cmgt (fun c2 => ?_) (fun c2 => ?_)
    · skip
      refine w_ic ?_
      exact w_iret (fun _ => Or.inl rfl) (h0 (by omega))
    · skip
      refine w_ic ?_
      refine w_goto ?_
      exact w_iret (fun _ => Or.inr rfl) (h1 (by omega) (by omega))
theorem r_X12_isDigit {d : Nat} {v : Int} {G : mj_G} {M : mj_M} {Q : mj_P} (h1 : 48 ≤ v → v ≤ 57 → Q (some (.inl 1)) G M) (h0 : v < 48 ∨ 57 < v → Q (some (.inl 0)) G M) : mj_R mj_tab (d + 1) 197 [.inl v] G M Q := by
  refine ⟨Nat.le_of_ble_eq_true rfl, ?_⟩
  show wz d mt_X12_isDigit.2.2.2.2.1 Q mt_X12_isDigit.2.2.2.2.1 [some (.inl v)] [] G M _ _
  refine w_iln rfl ?_
  refine w_bp ?_
  refine w_cmlt (fun c1 => ?_) (fun c1 => ?_)
  · skip
    refine w_ic ?_
    exact w_iret (fun _ => Or.inl rfl) (h0 (by omega))
  · skip
    refine w_iln rfl ?_
    refine w_bp ?_
    refine w_cmgt (fun c2 => ?_) (fun c2 => ?_)
    · skip
      refine w_ic ?_
      exact w_iret (fun _ => Or.inl rfl) (h0 (by omega))
    · skip
      refine w_ic ?_
      refine w_goto ?_
      exact w_iret (fun _ => Or.inr rfl) (h1 (by omega) (by omega))
theorem r_X7_valueAt {d : Nat} {tp bc n p : Nat} {B : Nat → Int} {G : mj_G} {M : mj_M} {Q : mj_P} (ht : G tp = (1008, 0)) (hb : G bc = (38101, 940)) (hn : n ≤ 940) (f0 : M.2.2 tp 0 = some bc) (fs : M.1 tp 1 = (n : Int)) (fb : ∀ k, rv_u8 (M.1 bc k) = B k) (h1 : p < n → Q (some (.inl (B p))) G M) (h0 : n ≤ p → Q (some (.inl (-1))) G M) : mj_R mj_tab (d + 1) 84 [.inr (.inr (some tp)), .inl (p : Int)] G M Q := by
  refine ⟨Nat.le_of_ble_eq_true rfl, ?_⟩
  show wz d mt_X7_valueAt.2.2.2.2.1 Q mt_X7_valueAt.2.2.2.2.1 [some (.inr (.inr (some tp))), some (.inl (p : Int))] [] G M _ _
  refine w_iln rfl ?_
  refine w_iflt (fun c1 => ?_) (fun c1 => ?_)
  · skip
    refine w_ic ?_
    exact w_iret (fun q => absurd q (by decide)) (h0 (by omega))
  · skip
    refine w_iln rfl ?_
    refine w_aln rfl ?_
    refine w_gi ht rfl (by decide) rfl (fs) ?_
    refine w_cmge (fun c2 => ?_) (fun c2 => ?_)
    · skip
      refine w_ic ?_
      exact w_iret (fun q => absurd q (by decide)) (h0 (by omega))
    · skip
      refine w_iln rfl ?_
      refine w_sp ?_
      refine w_cmge (fun c3 => ?_) (fun c3 => ?_)
      · skip
        refine w_ic ?_
        exact w_iret (fun q => absurd q (by decide)) (h0 (by omega))
      · skip
        refine w_aln rfl ?_
        refine w_gr ht rfl (by decide) rfl (f0) ?_
        refine w_iln rfl ?_
        refine w_bald hb rfl (by show (0 : Int) ≤ (p : Int); omega) (by show (p : Int) < ((940 : Nat) : Int); omega) (rfl) ?_
        refine w_sp ?_
        refine w_and ?_
        intro z4 hz4 ez4
        refine w_goto ?_
        have e9 : z4 = B p := ez4.trans (fb p)
        rw [e9]
        exact w_iret (fun q => absurd q (by decide)) (h1 (by omega))
theorem r_X12_peek {d : Nat} {m br n p : Nat} {B : Nat → Int} {G : mj_G} {M : mj_M} {Q : mj_P} (hm : G m = (1012, 0)) (hb : G br = (50101, 940)) (hn : n ≤ 940) (f1 : M.2.2 m 1 = some br) (fs : M.1 m 3 = (n : Int)) (fp : M.1 m 4 = (p : Int)) (fb : ∀ k, rv_u8 (M.1 br k) = B k) (h1 : p < n → Q (some (.inl (B p))) G M) (h0 : n ≤ p → Q (some (.inl (-1))) G M) : mj_R mj_tab (d + 1) 224 [.inr (.inr (some m))] G M Q := by
  refine ⟨Nat.le_of_ble_eq_true rfl, ?_⟩
  show wz d mt_X12_peek.2.2.2.2.1 Q mt_X12_peek.2.2.2.2.1 [some (.inr (.inr (some m)))] [] G M _ _
  refine w_aln rfl ?_
  refine w_gi hm rfl (by decide) rfl (fp) ?_
  refine w_aln rfl ?_
  refine w_gi hm rfl (by decide) rfl (fs) ?_
  refine w_cmge (fun c1 => ?_) (fun c1 => ?_)
  · skip
    refine w_ic ?_
    exact w_iret (fun q => absurd q (by decide)) (h0 (by omega))
  · skip
    refine w_aln rfl ?_
    refine w_gr hm rfl (by decide) rfl (f1) ?_
    refine w_aln rfl ?_
    refine w_gi hm rfl (by decide) rfl (fp) ?_
    refine w_bald hb rfl (by show (0 : Int) ≤ (p : Int); omega) (by show (p : Int) < ((940 : Nat) : Int); omega) (rfl) ?_
    refine w_sp ?_
    refine w_and ?_
    intro z2 hz2 ez2
    refine w_goto ?_
    have e9 : z2 = B p := ez2.trans (fb p)
    rw [e9]
    exact w_iret (fun q => absurd q (by decide)) (h1 (by omega))
/-- byte j of a number, the highest first -/
def rv_by (v : Int) (j : Nat) : Int := mj_nb ((((Int32.ofInt v).toUInt32 >>> ((Int32.ofInt (24 - 8 * j)).toUInt32 &&& Int32.toUInt32 31)).toInt32).toInt8.toInt32.toInt)
def rv_s7 (v s : Int) : Int := (((Int32.ofInt v).toUInt32 >>> ((Int32.ofInt s).toUInt32 &&& Int32.toUInt32 31)).toInt32).toInt
def rv_b7 (v : Int) (j : Nat) : Int := mj_nb ((Int32.ofInt (rv_s7 v (24 - 8 * (j : Int)))).toInt8.toInt32).toInt
theorem r_X7_put {d tp bc : Nat} {v n : Int} {G : mj_G} {M : mj_M} {Q : mj_P} (ho : G tp = (1008, 0)) (hb : G bc = (38101, 940)) (fa : M.2.2 tp 0 = some bc) (fn : M.1 tp 1 = n) (n0 : 0 ≤ n) (n9 : n + 4 ≤ 940) (hQ : ∀ M', M'.1 tp 1 = n + 4 → (∀ j, j < 4 → M'.1 bc (n.toNat + j) = rv_b7 v j) → (∀ a k, ¬ (a = tp ∧ k = 1) → ¬ (a = bc ∧ n.toNat ≤ k ∧ k < n.toNat + 4) → M'.1 a k = M.1 a k) → M'.2 = M.2 → Q none G M') : mj_R mj_tab (d + 1) 81 [.inr (.inr (some tp)), .inl v] G M Q := by
  have ne : tp ≠ bc := hn_ne ho hb (by decide)
  refine ⟨Nat.le_of_ble_eq_true rfl, ?_⟩
  show wz d mt_X7_put.2.2.2.2.1 Q mt_X7_put.2.2.2.2.1 [some (.inr (.inr (some tp))), some (.inl v), none] [] G M _ _
  refine w_bp ?_
  refine w_isn ?_
  refine w_iln rfl ?_
  refine w_iflt (fun c1 => ?_) (fun c1 => ?_)
  · exfalso; omega
  · skip
    refine w_aln rfl ?_
    refine w_gi ho rfl (by decide) rfl (fn) ?_
    refine w_sp ?_
    refine w_cmge (fun c2 => ?_) (fun c2 => ?_)
    · exfalso; omega
    · skip
      refine w_aln rfl ?_
      refine w_gr ho rfl (by decide) rfl (fa) ?_
      refine w_aln rfl ?_
      refine w_gi ho rfl (by decide) rfl (fn) ?_
      refine w_iln rfl ?_
      refine w_iln rfl ?_
      refine w_ushr ?_
      intro z3 hz3 ez3
      refine w_i2b ?_
      intro z4 hz4 ez4
      refine w_bast hb rfl (by decide) (by show (0 : Int) ≤ n; omega) (by show n < ((940 : Nat) : Int); omega) ?_
      refine w_aln rfl ?_
      refine w_dupr ?_
      refine w_gi ho rfl (by decide) rfl ((hn_n (Or.inl (hn_ne ho hb (by decide)))).trans (fn)) ?_
      refine w_ic ?_
      refine w_add ⟨by show (-2147483648 : Int) ≤ n + 1; omega, by show n + 1 < (2147483648 : Int); omega⟩ ?_
      refine w_pi ho rfl (by decide) rfl (fun q => by cases q) ?_
      refine w_ii rfl ⟨by show (-2147483648 : Int) ≤ 24 + (-8); omega, by show 24 + (-8) < (2147483648 : Int); omega⟩ ?_
      refine w_goto ?_
      refine w_iln rfl ?_
      refine w_iflt (fun c5 => ?_) (fun c5 => ?_)
      · exfalso; omega
      · skip
        refine w_aln rfl ?_
        refine w_gi ho rfl (by decide) rfl (hn_s) ?_
        refine w_sp ?_
        refine w_cmge (fun c6 => ?_) (fun c6 => ?_)
        · exfalso; omega
        · skip
          refine w_aln rfl ?_
          refine w_gr ho rfl (by decide) rfl (fa) ?_
          refine w_aln rfl ?_
          refine w_gi ho rfl (by decide) rfl (hn_s) ?_
          refine w_iln rfl ?_
          refine w_iln rfl ?_
          refine w_ushr ?_
          intro z7 hz7 ez7
          refine w_i2b ?_
          intro z8 hz8 ez8
          refine w_bast hb rfl (by decide) (by show (0 : Int) ≤ n + 1; omega) (by show n + 1 < ((940 : Nat) : Int); omega) ?_
          refine w_aln rfl ?_
          refine w_dupr ?_
          refine w_gi ho rfl (by decide) rfl ((hn_n (Or.inl (hn_ne ho hb (by decide)))).trans (hn_s)) ?_
          refine w_ic ?_
          refine w_add ⟨by show (-2147483648 : Int) ≤ (n + 1) + 1; omega, by show (n + 1) + 1 < (2147483648 : Int); omega⟩ ?_
          refine w_pi ho rfl (by decide) rfl (fun q => by cases q) ?_
          refine w_ii rfl ⟨by show (-2147483648 : Int) ≤ (24 + (-8)) + (-8); omega, by show (24 + (-8)) + (-8) < (2147483648 : Int); omega⟩ ?_
          refine w_goto ?_
          refine w_iln rfl ?_
          refine w_iflt (fun c9 => ?_) (fun c9 => ?_)
          · exfalso; omega
          · skip
            refine w_aln rfl ?_
            refine w_gi ho rfl (by decide) rfl (hn_s) ?_
            refine w_sp ?_
            refine w_cmge (fun c10 => ?_) (fun c10 => ?_)
            · exfalso; omega
            · skip
              refine w_aln rfl ?_
              refine w_gr ho rfl (by decide) rfl (fa) ?_
              refine w_aln rfl ?_
              refine w_gi ho rfl (by decide) rfl (hn_s) ?_
              refine w_iln rfl ?_
              refine w_iln rfl ?_
              refine w_ushr ?_
              intro z11 hz11 ez11
              refine w_i2b ?_
              intro z12 hz12 ez12
              refine w_bast hb rfl (by decide) (by show (0 : Int) ≤ (n + 1) + 1; omega) (by show (n + 1) + 1 < ((940 : Nat) : Int); omega) ?_
              refine w_aln rfl ?_
              refine w_dupr ?_
              refine w_gi ho rfl (by decide) rfl ((hn_n (Or.inl (hn_ne ho hb (by decide)))).trans (hn_s)) ?_
              refine w_ic ?_
              refine w_add ⟨by show (-2147483648 : Int) ≤ ((n + 1) + 1) + 1; omega, by show ((n + 1) + 1) + 1 < (2147483648 : Int); omega⟩ ?_
              refine w_pi ho rfl (by decide) rfl (fun q => by cases q) ?_
              refine w_ii rfl ⟨by show (-2147483648 : Int) ≤ ((24 + (-8)) + (-8)) + (-8); omega, by show ((24 + (-8)) + (-8)) + (-8) < (2147483648 : Int); omega⟩ ?_
              refine w_goto ?_
              refine w_iln rfl ?_
              refine w_iflt (fun c13 => ?_) (fun c13 => ?_)
              · exfalso; omega
              · skip
                refine w_aln rfl ?_
                refine w_gi ho rfl (by decide) rfl (hn_s) ?_
                refine w_sp ?_
                refine w_cmge (fun c14 => ?_) (fun c14 => ?_)
                · exfalso; omega
                · skip
                  refine w_aln rfl ?_
                  refine w_gr ho rfl (by decide) rfl (fa) ?_
                  refine w_aln rfl ?_
                  refine w_gi ho rfl (by decide) rfl (hn_s) ?_
                  refine w_iln rfl ?_
                  refine w_iln rfl ?_
                  refine w_ushr ?_
                  intro z15 hz15 ez15
                  refine w_i2b ?_
                  intro z16 hz16 ez16
                  refine w_bast hb rfl (by decide) (by show (0 : Int) ≤ ((n + 1) + 1) + 1; omega) (by show ((n + 1) + 1) + 1 < ((940 : Nat) : Int); omega) ?_
                  refine w_aln rfl ?_
                  refine w_dupr ?_
                  refine w_gi ho rfl (by decide) rfl ((hn_n (Or.inl (hn_ne ho hb (by decide)))).trans (hn_s)) ?_
                  refine w_ic ?_
                  refine w_add ⟨by show (-2147483648 : Int) ≤ (((n + 1) + 1) + 1) + 1; omega, by show (((n + 1) + 1) + 1) + 1 < (2147483648 : Int); omega⟩ ?_
                  refine w_pi ho rfl (by decide) rfl (fun q => by cases q) ?_
                  refine w_ii rfl ⟨by show (-2147483648 : Int) ≤ (((24 + (-8)) + (-8)) + (-8)) + (-8); omega, by show (((24 + (-8)) + (-8)) + (-8)) + (-8) < (2147483648 : Int); omega⟩ ?_
                  refine w_goto ?_
                  refine w_iln rfl ?_
                  refine w_iflt (fun c17 => ?_) (fun c17 => ?_)
                  · skip
                    refine w_ret (hQ _ ?_ ?_ ?_ rfl)
                    · exact hn_s.trans (by omega)
                    · intro j hj
                      have q : j = 0 ∨ j = 1 ∨ j = 2 ∨ j = 3 := by omega
                      have en := Ne.symm ne
                      rcases q with rfl | rfl | rfl | rfl
                      · have e0 : n.toNat + 0 = n.toNat := by omega
                        rw [e0]
                        refine (hn_n (Or.inl en)).trans <| (hn_n (Or.inr (by omega))).trans <| (hn_n (Or.inl en)).trans <| (hn_n (Or.inr (by omega))).trans <| (hn_n (Or.inl en)).trans <| (hn_n (Or.inr (by omega))).trans <| (hn_n (Or.inl en)).trans <| hn_s.trans ?_
                        rw [ez4, ez3]; rfl
                      · have e0 : n.toNat + 1 = (n + 1).toNat := by omega
                        rw [e0]
                        refine (hn_n (Or.inl en)).trans <| (hn_n (Or.inr (by omega))).trans <| (hn_n (Or.inl en)).trans <| (hn_n (Or.inr (by omega))).trans <| (hn_n (Or.inl en)).trans <| hn_s.trans ?_
                        rw [ez8, ez7]; rfl
                      · have e0 : n.toNat + 2 = (n + 1 + 1).toNat := by omega
                        rw [e0]
                        refine (hn_n (Or.inl en)).trans <| (hn_n (Or.inr (by omega))).trans <| (hn_n (Or.inl en)).trans <| hn_s.trans ?_
                        rw [ez12, ez11]; rfl
                      · have e0 : n.toNat + 3 = (n + 1 + 1 + 1).toNat := by omega
                        rw [e0]
                        refine (hn_n (Or.inl en)).trans <| hn_s.trans ?_
                        rw [ez16, ez15]; rfl
                    · intro a k h1 h2
                      have u1 : ∀ {M : mj_M} {z : Int}, (mj_p0 M tp 1 z).1 a k = M.1 a k := hn_n (Decidable.not_and_iff_or_not.mp h1)
                      have u2 : ∀ {M : mj_M} {q : Nat} {z : Int}, n.toNat ≤ q → q < n.toNat + 4 → (mj_p0 M bc q z).1 a k = M.1 a k := fun {M q z} g1 g2 => hn_n (Decidable.not_and_iff_or_not.mp (fun e => h2 ⟨e.1, by omega, by omega⟩))
                      exact u1.trans <| (u2 (by omega) (by omega)).trans <| u1.trans <| (u2 (by omega) (by omega)).trans <| u1.trans <| (u2 (by omega) (by omega)).trans <| u1.trans (u2 (by omega) (by omega))
                  · exfalso; omega
def rv_s12 (v s : Int) : Int := (Int32.ofInt v >>> (Int32.ofInt s &&& 31)).toInt
def rv_b12 (v : Int) (j : Nat) : Int := mj_nb ((Int32.ofInt (rv_s12 v (24 - 8 * (j : Int)))).toInt8.toInt32).toInt
theorem r_X12_four {d m br : Nat} {v n : Int} {G : mj_G} {M : mj_M} {Q : mj_P} (ho : G m = (1012, 0)) (hb : G br = (50101, 940)) (fa : M.2.2 m 1 = some br) (fn : M.1 m 2 = n) (n0 : 0 ≤ n) (n9 : n + 4 ≤ 940) (hQ : ∀ M', M'.1 m 2 = n + 4 → (∀ j, j < 4 → M'.1 br (n.toNat + j) = rv_b12 v j) → (∀ a k, ¬ (a = m ∧ k = 2) → ¬ (a = br ∧ n.toNat ≤ k ∧ k < n.toNat + 4) → M'.1 a k = M.1 a k) → M'.2 = M.2 → Q none G M') : mj_R mj_tab (d + 1) 190 [.inr (.inr (some m)), .inl v] G M Q := by
  have ne : m ≠ br := hn_ne ho hb (by decide)
  refine ⟨Nat.le_of_ble_eq_true rfl, ?_⟩
  show wz d mt_X12_four.2.2.2.2.1 Q mt_X12_four.2.2.2.2.1 [some (.inr (.inr (some m))), some (.inl v), none] [] G M _ _
  refine w_bp ?_
  refine w_isn ?_
  refine w_iln rfl ?_
  refine w_iflt (fun c1 => ?_) (fun c1 => ?_)
  · exfalso; omega
  · skip
    refine w_aln rfl ?_
    refine w_gr ho rfl (by decide) rfl (fa) ?_
    refine w_aln rfl ?_
    refine w_gi ho rfl (by decide) rfl (fn) ?_
    refine w_iln rfl ?_
    refine w_iln rfl ?_
    refine w_shr ?_
    intro z2 hz2 ez2
    refine w_i2b ?_
    intro z3 hz3 ez3
    refine w_bast hb rfl (by decide) (by show (0 : Int) ≤ n; omega) (by show n < ((940 : Nat) : Int); omega) ?_
    refine w_aln rfl ?_
    refine w_dupr ?_
    refine w_gi ho rfl (by decide) rfl ((hn_n (Or.inl (hn_ne ho hb (by decide)))).trans (fn)) ?_
    refine w_ic ?_
    refine w_add ⟨by show (-2147483648 : Int) ≤ n + 1; omega, by show n + 1 < (2147483648 : Int); omega⟩ ?_
    refine w_pi ho rfl (by decide) rfl (fun q => by cases q) ?_
    refine w_ii rfl ⟨by show (-2147483648 : Int) ≤ 24 + (-8); omega, by show 24 + (-8) < (2147483648 : Int); omega⟩ ?_
    refine w_goto ?_
    refine w_iln rfl ?_
    refine w_iflt (fun c4 => ?_) (fun c4 => ?_)
    · exfalso; omega
    · skip
      refine w_aln rfl ?_
      refine w_gr ho rfl (by decide) rfl (fa) ?_
      refine w_aln rfl ?_
      refine w_gi ho rfl (by decide) rfl (hn_s) ?_
      refine w_iln rfl ?_
      refine w_iln rfl ?_
      refine w_shr ?_
      intro z5 hz5 ez5
      refine w_i2b ?_
      intro z6 hz6 ez6
      refine w_bast hb rfl (by decide) (by show (0 : Int) ≤ n + 1; omega) (by show n + 1 < ((940 : Nat) : Int); omega) ?_
      refine w_aln rfl ?_
      refine w_dupr ?_
      refine w_gi ho rfl (by decide) rfl ((hn_n (Or.inl (hn_ne ho hb (by decide)))).trans (hn_s)) ?_
      refine w_ic ?_
      refine w_add ⟨by show (-2147483648 : Int) ≤ (n + 1) + 1; omega, by show (n + 1) + 1 < (2147483648 : Int); omega⟩ ?_
      refine w_pi ho rfl (by decide) rfl (fun q => by cases q) ?_
      refine w_ii rfl ⟨by show (-2147483648 : Int) ≤ (24 + (-8)) + (-8); omega, by show (24 + (-8)) + (-8) < (2147483648 : Int); omega⟩ ?_
      refine w_goto ?_
      refine w_iln rfl ?_
      refine w_iflt (fun c7 => ?_) (fun c7 => ?_)
      · exfalso; omega
      · skip
        refine w_aln rfl ?_
        refine w_gr ho rfl (by decide) rfl (fa) ?_
        refine w_aln rfl ?_
        refine w_gi ho rfl (by decide) rfl (hn_s) ?_
        refine w_iln rfl ?_
        refine w_iln rfl ?_
        refine w_shr ?_
        intro z8 hz8 ez8
        refine w_i2b ?_
        intro z9 hz9 ez9
        refine w_bast hb rfl (by decide) (by show (0 : Int) ≤ (n + 1) + 1; omega) (by show (n + 1) + 1 < ((940 : Nat) : Int); omega) ?_
        refine w_aln rfl ?_
        refine w_dupr ?_
        refine w_gi ho rfl (by decide) rfl ((hn_n (Or.inl (hn_ne ho hb (by decide)))).trans (hn_s)) ?_
        refine w_ic ?_
        refine w_add ⟨by show (-2147483648 : Int) ≤ ((n + 1) + 1) + 1; omega, by show ((n + 1) + 1) + 1 < (2147483648 : Int); omega⟩ ?_
        refine w_pi ho rfl (by decide) rfl (fun q => by cases q) ?_
        refine w_ii rfl ⟨by show (-2147483648 : Int) ≤ ((24 + (-8)) + (-8)) + (-8); omega, by show ((24 + (-8)) + (-8)) + (-8) < (2147483648 : Int); omega⟩ ?_
        refine w_goto ?_
        refine w_iln rfl ?_
        refine w_iflt (fun c10 => ?_) (fun c10 => ?_)
        · exfalso; omega
        · skip
          refine w_aln rfl ?_
          refine w_gr ho rfl (by decide) rfl (fa) ?_
          refine w_aln rfl ?_
          refine w_gi ho rfl (by decide) rfl (hn_s) ?_
          refine w_iln rfl ?_
          refine w_iln rfl ?_
          refine w_shr ?_
          intro z11 hz11 ez11
          refine w_i2b ?_
          intro z12 hz12 ez12
          refine w_bast hb rfl (by decide) (by show (0 : Int) ≤ ((n + 1) + 1) + 1; omega) (by show ((n + 1) + 1) + 1 < ((940 : Nat) : Int); omega) ?_
          refine w_aln rfl ?_
          refine w_dupr ?_
          refine w_gi ho rfl (by decide) rfl ((hn_n (Or.inl (hn_ne ho hb (by decide)))).trans (hn_s)) ?_
          refine w_ic ?_
          refine w_add ⟨by show (-2147483648 : Int) ≤ (((n + 1) + 1) + 1) + 1; omega, by show (((n + 1) + 1) + 1) + 1 < (2147483648 : Int); omega⟩ ?_
          refine w_pi ho rfl (by decide) rfl (fun q => by cases q) ?_
          refine w_ii rfl ⟨by show (-2147483648 : Int) ≤ (((24 + (-8)) + (-8)) + (-8)) + (-8); omega, by show (((24 + (-8)) + (-8)) + (-8)) + (-8) < (2147483648 : Int); omega⟩ ?_
          refine w_goto ?_
          refine w_iln rfl ?_
          refine w_iflt (fun c13 => ?_) (fun c13 => ?_)
          · skip
            refine w_ret (hQ _ ?_ ?_ ?_ rfl)
            · exact hn_s.trans (by omega)
            · intro j hj
              have q : j = 0 ∨ j = 1 ∨ j = 2 ∨ j = 3 := by omega
              have en := Ne.symm ne
              rcases q with rfl | rfl | rfl | rfl
              · have e0 : n.toNat + 0 = n.toNat := by omega
                rw [e0]
                refine (hn_n (Or.inl en)).trans <| (hn_n (Or.inr (by omega))).trans <| (hn_n (Or.inl en)).trans <| (hn_n (Or.inr (by omega))).trans <| (hn_n (Or.inl en)).trans <| (hn_n (Or.inr (by omega))).trans <| (hn_n (Or.inl en)).trans <| hn_s.trans ?_
                rw [ez3, ez2]; rfl
              · have e0 : n.toNat + 1 = (n + 1).toNat := by omega
                rw [e0]
                refine (hn_n (Or.inl en)).trans <| (hn_n (Or.inr (by omega))).trans <| (hn_n (Or.inl en)).trans <| (hn_n (Or.inr (by omega))).trans <| (hn_n (Or.inl en)).trans <| hn_s.trans ?_
                rw [ez6, ez5]; rfl
              · have e0 : n.toNat + 2 = (n + 1 + 1).toNat := by omega
                rw [e0]
                refine (hn_n (Or.inl en)).trans <| (hn_n (Or.inr (by omega))).trans <| (hn_n (Or.inl en)).trans <| hn_s.trans ?_
                rw [ez9, ez8]; rfl
              · have e0 : n.toNat + 3 = (n + 1 + 1 + 1).toNat := by omega
                rw [e0]
                refine (hn_n (Or.inl en)).trans <| hn_s.trans ?_
                rw [ez12, ez11]; rfl
            · intro a k h1 h2
              have u1 : ∀ {M : mj_M} {z : Int}, (mj_p0 M m 2 z).1 a k = M.1 a k := hn_n (Decidable.not_and_iff_or_not.mp h1)
              have u2 : ∀ {M : mj_M} {q : Nat} {z : Int}, n.toNat ≤ q → q < n.toNat + 4 → (mj_p0 M br q z).1 a k = M.1 a k := fun {M q z} g1 g2 => hn_n (Decidable.not_and_iff_or_not.mp (fun e => h2 ⟨e.1, by omega, by omega⟩))
              exact u1.trans <| (u2 (by omega) (by omega)).trans <| u1.trans <| (u2 (by omega) (by omega)).trans <| u1.trans <| (u2 (by omega) (by omega)).trans <| u1.trans (u2 (by omega) (by omega))
          · exfalso; omega
end
section
/-! ===== a pure reader of tokens ===== -/
def rv_le (v : Int) : Bool := decide (97 ≤ v ∧ v ≤ 122)
def rv_di (v : Int) : Bool := decide (48 ≤ v ∧ v ≤ 57)
def rv_an (v : Int) : Bool := rv_le v || rv_di v
/-- blanks are skipped from p on, up to e; f of them at most -/
def rv_sk (B : Nat → Int) (e : Nat) : Nat → Nat → Nat
  | 0, p => p
  | f + 1, p => if p < e ∧ (B p = 32 ∨ B p = 10) then rv_sk B e f (p + 1) else p
/-- the end of a run of letters and digits from p on, up to e -/
def rv_rn (B : Nat → Int) (e : Nat) : Nat → Nat → Nat
  | 0, p => p
  | f + 1, p => if p < e ∧ rv_an (B p) = true then rv_rn B e f (p + 1) else p
/-- of the first k bytes from p on: how many are letters; the number; the codes -/
def rv_nl (B : Nat → Int) (p : Nat) : Nat → Nat
  | 0 => 0
  | k + 1 => rv_nl B p k + (if rv_le (B (p + k)) = true then 1 else 0)
def rv_nu (B : Nat → Int) (p : Nat) : Nat → Int
  | 0 => 0
  | k + 1 => 10 * rv_nu B p k + B (p + k) - 48
def rv_c5 (B : Nat → Int) (p : Nat) : Nat → Int64
  | 0 => 0
  | k + 1 => rv_c5 B p k <<< ((Int32.ofInt 5).toInt64 &&& 63) ||| (Int32.ofInt (B (p + k) - 96)).toInt64
def rv_w8 (B : Nat → Int) (p : Nat) : Nat → Int64
  | 0 => 0
  | k + 1 => rv_w8 B p k <<< ((Int32.ofInt 8).toInt64 &&& 63) ||| (Int32.ofInt (B (p + k))).toInt64
/-- the token from p on: its kind (0 the end, 1 a word, 2 a number, 3 a sign, 4 a bad run, 5 the most bytes are over), where, its length, what is behind it -/
def rv_tk (B : Nat → Int) (size lim p : Nat) : Nat × Nat × Nat × Nat :=
  let e := min size lim
  let q := rv_sk B e (e - p) p
  if e ≤ q then (if size ≤ lim then 0 else 5, e, 0, q)
  else if rv_an (B q) = true then
    let r := rv_rn B size (size - q) q
    (if rv_nl B q (r - q) = r - q ∧ r - q ≤ 8 then 1 else if rv_nl B q (r - q) = 0 ∧ r - q ≤ 3 then 2 else 4, q, r - q, r)
  else (3, q, 1, q + 1)
theorem rv_sk_ge (B : Nat → Int) (e : Nat) : ∀ f p, p ≤ rv_sk B e f p
  | 0, p => Nat.le_refl p
  | f + 1, p => by
    unfold rv_sk
    split
    · exact Nat.le_trans (Nat.le_succ p) (rv_sk_ge B e f (p + 1))
    · exact Nat.le_refl p
theorem rv_sk_le (B : Nat → Int) (e : Nat) : ∀ f p, p ≤ e → rv_sk B e f p ≤ e
  | 0, p, h => h
  | f + 1, p, h => by
    unfold rv_sk
    split
    · rename_i c
      exact rv_sk_le B e f (p + 1) c.1
    · exact h
theorem rv_rn_ge (B : Nat → Int) (e : Nat) : ∀ f p, p ≤ rv_rn B e f p
  | 0, p => Nat.le_refl p
  | f + 1, p => by
    unfold rv_rn
    split
    · exact Nat.le_trans (Nat.le_succ p) (rv_rn_ge B e f (p + 1))
    · exact Nat.le_refl p
theorem rv_rn_le (B : Nat → Int) (e : Nat) : ∀ f p, p ≤ e → rv_rn B e f p ≤ e
  | 0, p, h => h
  | f + 1, p, h => by
    unfold rv_rn
    split
    · rename_i c
      exact rv_rn_le B e f (p + 1) c.1
    · exact h
theorem rv_nl_le (B : Nat → Int) (p : Nat) : ∀ k, rv_nl B p k ≤ k
  | 0 => Nat.le_refl 0
  | k + 1 => by
    unfold rv_nl
    have := rv_nl_le B p k
    split <;> omega
/-- a byte's bounds -/
theorem rv_u8_in (b : Int) : 0 ≤ rv_u8 b ∧ rv_u8 b ≤ 255 := sx_and_in (Int32.ofInt b) 255 (by decide) (by decide)
end
section
/-! ===== the class's tape: blanks are skipped (laid by a program) ===== -/
/-- nothing but slots ks of the cell a is changed among the ints -/
def rv_o (a : Nat) (ks : List Nat) (M M' : mj_M) : Prop := ∀ x k, ¬ (x = a ∧ k ∈ ks) → M'.1 x k = M.1 x k
theorem rv_o.rf {a : Nat} {ks : List Nat} {M : mj_M} : rv_o a ks M M := fun _ _ _ => rfl
theorem rv_o.tr {a : Nat} {ks : List Nat} {M M' M'' : mj_M} (h : rv_o a ks M M') (h' : rv_o a ks M' M'') : rv_o a ks M M'' := fun x k q => (h' x k q).trans (h x k q)
theorem rv_o.st {a j : Nat} {ks : List Nat} {M : mj_M} {z : Int} (hj : j ∈ ks) : rv_o a ks M (mj_p0 M a j z) := fun x k q => hn_n (Decidable.not_and_iff_or_not.mp (fun e => q ⟨e.1, by rw [e.2]; exact hj⟩))
theorem r_adv1 {d tp bc n e : Nat} {B : Nat → Int} {G : mj_G} {Q : mj_P} (ht : G tp = (1008, 0)) (hb : G bc = (38101, 940)) (hn : n ≤ 940) (he : e ≤ n) : ∀ (f p : Nat) (M : mj_M) (cb sb : Nat), e ≤ p + f → M.2.2 tp 0 = some bc → M.1 tp 1 = (n : Int) → M.1 tp 11 = (p : Int) → (∀ k, rv_u8 (M.1 bc k) = B k) →
    (∀ M', M'.1 tp 11 = ((rv_sk B e f p : Nat) : Int) → rv_o tp [11] M M' → M'.2 = M.2 → wz (d + 1) mt_X7_advance.2.2.2.2.1 Q (mt_X7_advance.2.2.2.2.1.drop 29) [some (.inr (.inr (some tp))), some (.inl (e : Int))] [] G M' cb sb) → wz (d + 1) mt_X7_advance.2.2.2.2.1 Q (mt_X7_advance.2.2.2.2.1.drop 6) [some (.inr (.inr (some tp))), some (.inl (e : Int))] [] G M cb sb := by
  have ne : bc ≠ tp := hn_ne hb ht (by decide)
  intro f
  induction f with
  | zero =>
    intro p M cb sb hf f0 fs fh fb hK
    refine w_aln rfl ?_
    refine w_gi ht rfl (by decide) rfl (fh) ?_
    refine w_iln rfl ?_
    refine w_cmge (fun c1 => ?_) (fun c1 => ?_)
    · skip
      exact hK M fh rv_o.rf rfl
    · exfalso; omega
  | succ f ih =>
    intro p M cb sb hf f0 fs fh fb hK
    refine w_aln rfl ?_
    refine w_gi ht rfl (by decide) rfl (fh) ?_
    refine w_iln rfl ?_
    refine w_cmge (fun c1 => ?_) (fun c1 => ?_)
    · skip
      refine hK M ?_ rv_o.rf rfl
      rw [show rv_sk B e (f + 1) p = p from if_neg (by omega)]; exact fh
    · skip
      refine w_aln rfl ?_
      refine w_aln rfl ?_
      refine w_gi ht rfl (by decide) rfl (fh) ?_
      refine w_cv (st := []) rfl ht rfl (Nat.le_of_ble_eq_true rfl) (fun kk h => h) (r_X7_valueAt (d := d) (B := B) ht hb hn f0 (fs) fb (fun c => ?_) (fun c => by exfalso; omega))
      · skip
        refine w_bp ?_
        refine w_cmeq (fun c2 => ?_) (fun c2 => ?_)
        · skip
          refine w_aln rfl ?_
          refine w_dupr ?_
          refine w_gi ht rfl (by decide) rfl (fh) ?_
          refine w_ic ?_
          refine w_add ⟨by show (-2147483648 : Int) ≤ (p : Int) + 1; omega, by show (p : Int) + 1 < (2147483648 : Int); omega⟩ ?_
          refine w_pi ht rfl (by decide) rfl (fun q => by cases q) ?_
          refine w_goto ?_
          refine ih (p + 1) _ cb sb (by omega) f0 ((hn_n (Or.inr (by decide))).trans fs) (hn_s.trans (by omega)) (fun k => by rw [show (mj_p0 M tp 11 ((p : Int) + 1)).1 bc k = M.1 bc k from hn_n (Or.inl ne)]; exact fb k) (fun M' e1 e2 e3 => hK M' ?_ (rv_o.st (by decide) |>.tr e2) e3)
          rw [e1, show rv_sk B e (f + 1) p = rv_sk B e f (p + 1) from if_pos (by omega)]
        · skip
          refine w_aln rfl ?_
          refine w_aln rfl ?_
          refine w_gi ht rfl (by decide) rfl (fh) ?_
          refine w_cv (st := []) rfl ht rfl (Nat.le_of_ble_eq_true rfl) (fun kk h => h) (r_X7_valueAt (d := d) (B := B) ht hb hn f0 (fs) fb (fun c => ?_) (fun c => by exfalso; omega))
          · skip
            refine w_bp ?_
            refine w_cmne (fun c3 => ?_) (fun c3 => ?_)
            · skip
              refine hK M ?_ rv_o.rf rfl
              rw [show rv_sk B e (f + 1) p = p from if_neg (by omega)]; exact fh
            · skip
              refine w_aln rfl ?_
              refine w_dupr ?_
              refine w_gi ht rfl (by decide) rfl (fh) ?_
              refine w_ic ?_
              refine w_add ⟨by show (-2147483648 : Int) ≤ (p : Int) + 1; omega, by show (p : Int) + 1 < (2147483648 : Int); omega⟩ ?_
              refine w_pi ht rfl (by decide) rfl (fun q => by cases q) ?_
              refine w_goto ?_
              refine ih (p + 1) _ cb sb (by omega) f0 ((hn_n (Or.inr (by decide))).trans fs) (hn_s.trans (by omega)) (fun k => by rw [show (mj_p0 M tp 11 ((p : Int) + 1)).1 bc k = M.1 bc k from hn_n (Or.inl ne)]; exact fb k) (fun M' e1 e2 e3 => hK M' ?_ (rv_o.st (by decide) |>.tr e2) e3)
              rw [e1, show rv_sk B e (f + 1) p = rv_sk B e f (p + 1) from if_pos (by omega)]
end
section
/-! ===== Word.find by hand ===== -/
theorem rv_cmp {x y : Int64} {z : Int} (h : z = (lg_cmp x y).toInt) : (z = 0 → x = y) ∧ (z ≠ 0 → x ≠ y) := by
  by_cases q : x = y
  · subst q
    have e : lg_cmp x x = 0 := by
      unfold lg_cmp
      rw [if_neg (fun g => by rw [gt_iff_lt, Int64.lt_iff_toInt_lt] at g; omega), if_pos rfl]
    rw [e] at h
    exact ⟨fun _ => rfl, fun g => absurd h g⟩
  · have e : lg_cmp x y = 1 ∨ lg_cmp x y = -1 := by
      unfold lg_cmp
      by_cases g : x > y
      · exact Or.inl (if_pos g)
      · exact Or.inr ((if_neg g).trans (if_neg q))
    refine ⟨fun g => ?_, fun _ => q⟩
    rcases e with e | e
    · rw [e, g] at h; exact absurd h (by decide)
    · rw [e, g] at h; exact absurd h (by decide)
/-- the list of all words, as it is read -/
def rv_wl (G : mj_G) (M : mj_M) : Prop := ∀ a, G a = (900105, 24) → ∀ k, k < 24 → ∃ w, M.2.2 a k = some w ∧ G w = (900050 + 1000 * k, 0)
theorem r_find1 {d : Nat} {c : Int64} {G : mj_G} {M : mj_M} {Q : mj_P} (hw : rv_wl G M) (h1 : ∀ k w, k < 24 → mj_wc.getD k 0 = c → G w = (900050 + 1000 * k, 0) → Q (some (.inr (.inr (some w)))) G M) (h0 : (∀ j, j < 24 → mj_wc.getD j 0 ≠ c) → Q (some (.inr (.inr none))) G M) :
    ∀ (f i cb sb : Nat), i + f = 24 → (∀ j, j < i → mj_wc.getD j 0 ≠ c) → wz d mt_X9_find.2.2.2.2.1 Q (mt_X9_find.2.2.2.2.1.drop 2) [some (.inr (.inl c)), none, some (.inl (i : Int))] [] G M cb sb := by
  intro f
  induction f with
  | zero =>
    intro i cb sb hi hj
    refine w_iln rfl ?_
    refine w_gs (fun a ha => ?_)
    have ha : G a = (900105, 24) := ha
    refine w_len (j := 5) ha rfl (by decide) ⟨by decide, by decide⟩ ?_
    refine w_cmge (fun c1 => ?_) (fun c1 => ?_)
    · refine w_nu ?_
      exact w_aret (h0 (fun j q => hj j (by omega)))
    · exfalso; omega
  | succ f ih =>
    intro i cb sb hi hj
    refine w_iln rfl ?_
    refine w_gs (fun a ha => ?_)
    have ha : G a = (900105, 24) := ha
    refine w_len (j := 5) ha rfl (by decide) ⟨by decide, by decide⟩ ?_
    refine w_cmge (fun c1 => ?_) (fun c1 => ?_)
    · exfalso; omega
    · refine w_gs (fun a2 ha2 => ?_)
      have ha2 : G a2 = (900105, 24) := ha2
      obtain ⟨w, w1, w2⟩ := hw a2 ha2 i (by omega)
      refine w_iln rfl ?_
      refine w_aald ha2 rfl (by omega) (by show (i : Int) < ((24 : Nat) : Int); omega) w1 ?_
      refine w_gwc w2 ?_
      refine w_lln rfl ?_
      refine w_lcmp ?_
      intro z hz ez
      obtain ⟨q0, q1⟩ := rv_cmp ez
      refine w_ifne (fun c2 => ?_) (fun c2 => ?_)
      · refine w_ii rfl ⟨by show (-2147483648 : Int) ≤ (i : Int) + 1; omega, by show (i : Int) + 1 < (2147483648 : Int); omega⟩ ?_
        refine w_goto ?_
        exact ih (i + 1) cb sb (by omega) (fun j q => by
          rcases Nat.lt_or_ge j i with g | g
          · exact hj j g
          · rw [show j = i by omega]; exact q1 c2)
      · refine w_gs (fun a3 ha3 => ?_)
        have ha3 : G a3 = (900105, 24) := ha3
        obtain ⟨w', w1', w2'⟩ := hw a3 ha3 i (by omega)
        refine w_iln rfl ?_
        refine w_aald ha3 rfl (by omega) (by show (i : Int) < ((24 : Nat) : Int); omega) w1' ?_
        exact w_aret (h1 i w' (by omega) (q0 c2) w2')
theorem r_X9_find {d : Nat} {c : Int64} {G : mj_G} {M : mj_M} {Q : mj_P} (hw : rv_wl G M) (h1 : ∀ k w, k < 24 → mj_wc.getD k 0 = c → G w = (900050 + 1000 * k, 0) → Q (some (.inr (.inr (some w)))) G M) (h0 : (∀ j, j < 24 → mj_wc.getD j 0 ≠ c) → Q (some (.inr (.inr none))) G M) : mj_R mj_tab (d + 1) 262 [.inr (.inl c)] G M Q := by
  refine ⟨Nat.le_of_ble_eq_true rfl, ?_⟩
  show wz d mt_X9_find.2.2.2.2.1 Q mt_X9_find.2.2.2.2.1 [some (.inr (.inl c)), none, none] [] G M _ _
  refine w_ic ?_
  refine w_isn ?_
  exact r_find1 hw h1 h0 24 0 _ _ rfl (fun j q => absurd q (Nat.not_lt_zero j))
end
section
/-! ===== the class's tape: a run of letters and digits (laid by a program) ===== -/
theorem rv_le_t {v : Int} (h1 : 97 ≤ v) (h2 : v ≤ 122) : rv_le v = true := decide_eq_true ⟨h1, h2⟩
theorem rv_le_f {v : Int} (h : v < 97 ∨ 122 < v) : rv_le v = false := decide_eq_false (by omega)
theorem rv_di_t {v : Int} (h1 : 48 ≤ v) (h2 : v ≤ 57) : rv_di v = true := decide_eq_true ⟨h1, h2⟩
theorem rv_di_f {v : Int} (h : v < 48 ∨ 57 < v) : rv_di v = false := decide_eq_false (by omega)
theorem rv_an_l {v : Int} (h1 : 97 ≤ v) (h2 : v ≤ 122) : rv_an v = true := by unfold rv_an; rw [rv_le_t h1 h2]; rfl
theorem rv_an_d {v : Int} (h1 : 48 ≤ v) (h2 : v ≤ 57) : rv_an v = true := by unfold rv_an; rw [rv_di_t h1 h2]; exact Bool.or_true _
theorem rv_an_n {v : Int} (h1 : v < 97 ∨ 122 < v) (h2 : v < 48 ∨ 57 < v) : ¬ rv_an v = true := by unfold rv_an; rw [rv_le_f h1, rv_di_f h2]; decide
theorem rv_wm {x y z : Int} (h : z = (Int32.ofInt x * Int32.ofInt y).toInt) (hi : mj_in (x * y)) : z = x * y := by rw [h, ← Int32.ofInt_mul, mj_ti hi]
theorem rv_wa {x y z : Int} (h : z = (Int32.ofInt x + Int32.ofInt y).toInt) (hi : mj_in (x + y)) : z = x + y := by rw [h, ← Int32.ofInt_add, mj_ti hi]
theorem rv_ws {x y z : Int} (h : z = (Int32.ofInt x - Int32.ofInt y).toInt) (hi : mj_in (x - y)) : z = x - y := by rw [h, ← Int32.ofInt_sub, mj_ti hi]
theorem rv_nl_s {B : Nat → Int} {q k : Nat} (h : rv_le (B (q + k)) = true) : rv_nl B q (k + 1) = rv_nl B q k + 1 := by show rv_nl B q k + _ = _; rw [if_pos h]
theorem rv_nl_n {B : Nat → Int} {q k : Nat} (h : rv_le (B (q + k)) = false) : rv_nl B q (k + 1) = rv_nl B q k := by show rv_nl B q k + _ = _; rw [if_neg (by rw [h]; decide)]; rfl
/-- what is known of a number of k digits -/
def rv_nk (B : Nat → Int) (q k : Nat) (z : Int) : Prop := z = rv_nu B q k ∧ 0 ≤ z ∧ (k ≤ 0 → z ≤ 0) ∧ (k ≤ 1 → z ≤ 9) ∧ (k ≤ 2 → z ≤ 99) ∧ z ≤ 999
theorem r_run1 {d tp bc n q : Nat} {B : Nat → Int} {G : mj_G} {Q : mj_P} (ht : G tp = (1008, 0)) (hb : G bc = (38101, 940)) (hn : n ≤ 940) : ∀ (f k : Nat) (M : mj_M) (v3 : Option mj_V) (cb sb : Nat), n ≤ q + k + f → q + k ≤ n → M.2.2 tp 0 = some bc → M.1 tp 1 = (n : Int) → M.1 tp 11 = ((q + k : Nat) : Int) → (rv_nl B q k = k → M.2.1 tp 8 = rv_c5 B q k) → (rv_nl B q k = 0 → k ≤ 3 → rv_nk B q k (M.1 tp 6)) → (∀ k, rv_u8 (M.1 bc k) = B k) →
    (∀ (k' : Nat) (M' : mj_M) (v3 : Option mj_V), rv_rn B n f (q + k) = q + k' → q + k' ≤ n → M'.1 tp 11 = ((q + k' : Nat) : Int) → rv_o tp [6, 11] M M' → M'.2.2 = M.2.2 → (∀ a j, ¬ (a = tp ∧ j = 8) → M'.2.1 a j = M.2.1 a j) → (rv_nl B q k' = k' → M'.2.1 tp 8 = rv_c5 B q k') → (rv_nl B q k' = 0 → k' ≤ 3 → rv_nk B q k' (M'.1 tp 6)) → wz (d + 1) mt_X7_readRun.2.2.2.2.1 Q (mt_X7_readRun.2.2.2.2.1.drop 60) [some (.inr (.inr (some tp))), some (.inl ((rv_nl B q k' : Nat) : Int)), some (.inl ((k' - rv_nl B q k' : Nat) : Int)), v3] [] G M' cb sb) → wz (d + 1) mt_X7_readRun.2.2.2.2.1 Q (mt_X7_readRun.2.2.2.2.1.drop 4) [some (.inr (.inr (some tp))), some (.inl ((rv_nl B q k : Nat) : Int)), some (.inl ((k - rv_nl B q k : Nat) : Int)), v3] [] G M cb sb := by
  have ne : bc ≠ tp := hn_ne hb ht (by decide)
  intro f
  induction f with
  | zero =>
    intro k M v3 cb sb hf hq f0 fs fh hc hu fb hK
    refine w_aln rfl ?_
    refine w_gi ht rfl (by decide) rfl (fh) ?_
    refine w_aln rfl ?_
    refine w_gi ht rfl (by decide) rfl (fs) ?_
    refine w_cmge (fun c1 => ?_) (fun c1 => ?_)
    · skip
      exact hK k M v3 rfl hq fh rv_o.rf rfl (fun _ _ _ => rfl) hc hu
    · exfalso; omega
  | succ f ih =>
    intro k M v3 cb sb hf hq f0 fs fh hc hu fb hK
    have hl := rv_nl_le B q k
    have ub := rv_u8_in (M.1 bc (q + k))
    rw [fb (q + k)] at ub
    refine w_aln rfl ?_
    refine w_gi ht rfl (by decide) rfl (fh) ?_
    refine w_aln rfl ?_
    refine w_gi ht rfl (by decide) rfl (fs) ?_
    refine w_cmge (fun c1 => ?_) (fun c1 => ?_)
    · skip
      exact hK k M v3 (if_neg (by omega)) hq fh rv_o.rf rfl (fun _ _ _ => rfl) hc hu
    · skip
      refine w_aln rfl ?_
      refine w_aln rfl ?_
      refine w_gi ht rfl (by decide) rfl (fh) ?_
      refine w_cv (st := []) rfl ht rfl (Nat.le_of_ble_eq_true rfl) (fun kk h => h) (r_X7_valueAt (d := d) (p := q + k) (B := B) ht hb hn f0 (fs) fb (fun c => ?_) (fun c => by exfalso; omega))
      · skip
        refine w_cs (st := []) rfl (Nat.le_of_ble_eq_true rfl) (fun kk h => h) (r_X7_isLetter (d := d) (fun l1 l2 => ?_) (fun l0 => ?_))
        · skip
          refine w_ifne (fun c2 => ?_) (fun c2 => ?_)
          · skip
            refine w_aln rfl ?_
            refine w_aln rfl ?_
            refine w_gi ht rfl (by decide) rfl (fh) ?_
            refine w_cv (st := []) rfl ht rfl (Nat.le_of_ble_eq_true rfl) (fun kk h => h) (r_X7_valueAt (d := d) (p := q + k) (B := B) ht hb hn f0 (fs) fb (fun c => ?_) (fun c => by exfalso; omega))
            · skip
              refine w_isn ?_
              refine w_iln rfl ?_
              refine w_cs (st := []) rfl (Nat.le_of_ble_eq_true rfl) (fun kk h => h) (r_X7_isLetter (d := d) (fun a b => ?_) (fun a => by exfalso; omega))
              · skip
                refine w_ifeq (fun c3 => ?_) (fun c3 => ?_)
                · exfalso; omega
                · skip
                  refine w_ii rfl ⟨by show (-2147483648 : Int) ≤ ((rv_nl B q k : Nat) : Int) + 1; omega, by show ((rv_nl B q k : Nat) : Int) + 1 < (2147483648 : Int); omega⟩ ?_
                  refine w_aln rfl ?_
                  refine w_aln rfl ?_
                  refine w_gl ht rfl (by decide) rfl (rfl) ?_
                  refine w_ic ?_
                  refine w_lshl ?_
                  refine w_iln rfl ?_
                  refine w_bp ?_
                  refine w_sub ⟨by show (-2147483648 : Int) ≤ (B (q + k)) - 96; omega, by show (B (q + k)) - 96 < (2147483648 : Int); omega⟩ ?_
                  refine w_i2l ?_
                  refine w_lor ?_
                  refine w_pl ht rfl (by decide) rfl ?_
                  refine w_goto ?_
                  refine w_aln rfl ?_
                  refine w_dupr ?_
                  refine w_gi ht rfl (by decide) rfl (fh) ?_
                  refine w_ic ?_
                  refine w_add ⟨by show (-2147483648 : Int) ≤ ((q + k : Nat) : Int) + 1; omega, by show ((q + k : Nat) : Int) + 1 < (2147483648 : Int); omega⟩ ?_
                  refine w_pi ht rfl (by decide) rfl (fun q => by cases q) ?_
                  refine w_goto ?_
                  have en := rv_nl_s (q := q) (k := k) (rv_le_t l1 l2)
                  have e1 : ((rv_nl B q k : Nat) : Int) + 1 = ((rv_nl B q (k + 1) : Nat) : Int) := by omega
                  have e2 : ((k - rv_nl B q k : Nat) : Int) = ((k + 1 - rv_nl B q (k + 1) : Nat) : Int) := by omega
                  have er : rv_rn B n (f + 1) (q + k) = rv_rn B n f (q + (k + 1)) := if_pos ⟨by omega, rv_an_l l1 l2⟩
                  have ih1 := ih (k + 1) ((mj_p0 (mj_p1 M tp 8 (((M.2.1 tp 8) <<< ((Int32.ofInt 5).toInt64 &&& 63)) ||| ((Int32.ofInt ((B (q + k)) - 96)).toInt64))) tp 11 (((q + k : Nat) : Int) + 1))) (some (.inl (B (q + k)))) cb sb (by omega) (by omega) f0 ((hn_n (Or.inr (by decide))).trans (fs)) (hn_s.trans (by omega)) (fun g => by show (mj_p1 M tp 8 _).2.1 tp 8 = _; rw [wz_sl, hc (by omega)]; rfl) (fun g => by exfalso; omega) (fun j => by rw [show ((mj_p0 (mj_p1 M tp 8 (((M.2.1 tp 8) <<< ((Int32.ofInt 5).toInt64 &&& 63)) ||| ((Int32.ofInt ((B (q + k)) - 96)).toInt64))) tp 11 (((q + k : Nat) : Int) + 1))).1 bc j = M.1 bc j from (hn_n (Or.inl ne))]; exact fb j) (fun k' M' v3 g0 g1 g2 g3 g3b g4 g5 g6 => hK k' M' v3 (er.trans g0) g1 g2 (rv_o.tr (M' := (mj_p0 (mj_p1 M tp 8 (((M.2.1 tp 8) <<< ((Int32.ofInt 5).toInt64 &&& 63)) ||| ((Int32.ofInt ((B (q + k)) - 96)).toInt64))) tp 11 (((q + k : Nat) : Int) + 1))) (rv_o.st (a := tp) (j := 11) (by decide)) g3) g3b (fun a j g => (g4 a j g).trans (wz_nl (Decidable.not_and_iff_or_not.mp g))) g5 g6)
                  rw [← e1, ← e2] at ih1
                  exact ih1
          · exfalso; omega
        · skip
          refine w_ifne (fun c4 => ?_) (fun c4 => ?_)
          · exfalso; omega
          · skip
            refine w_aln rfl ?_
            refine w_aln rfl ?_
            refine w_gi ht rfl (by decide) rfl (fh) ?_
            refine w_cv (st := []) rfl ht rfl (Nat.le_of_ble_eq_true rfl) (fun kk h => h) (r_X7_valueAt (d := d) (p := q + k) (B := B) ht hb hn f0 (fs) fb (fun c => ?_) (fun c => by exfalso; omega))
            · skip
              refine w_cs (st := []) rfl (Nat.le_of_ble_eq_true rfl) (fun kk h => h) (r_X7_isDigit (d := d) (fun d1 d2 => ?_) (fun d0 => ?_))
              · skip
                refine w_ifeq (fun c5 => ?_) (fun c5 => ?_)
                · exfalso; omega
                · skip
                  refine w_aln rfl ?_
                  refine w_aln rfl ?_
                  refine w_gi ht rfl (by decide) rfl (fh) ?_
                  refine w_cv (st := []) rfl ht rfl (Nat.le_of_ble_eq_true rfl) (fun kk h => h) (r_X7_valueAt (d := d) (p := q + k) (B := B) ht hb hn f0 (fs) fb (fun c => ?_) (fun c => by exfalso; omega))
                  · skip
                    refine w_isn ?_
                    refine w_iln rfl ?_
                    refine w_cs (st := []) rfl (Nat.le_of_ble_eq_true rfl) (fun kk h => h) (r_X7_isLetter (d := d) (fun a b => by exfalso; omega) (fun a => ?_))
                    · skip
                      refine w_ifeq (fun c6 => ?_) (fun c6 => ?_)
                      · skip
                        refine w_ii rfl ⟨by show (-2147483648 : Int) ≤ ((k - rv_nl B q k : Nat) : Int) + 1; omega, by show ((k - rv_nl B q k : Nat) : Int) + 1 < (2147483648 : Int); omega⟩ ?_
                        refine w_aln rfl ?_
                        refine w_aln rfl ?_
                        refine w_gi ht rfl (by decide) rfl (rfl) ?_
                        refine w_bp ?_
                        refine w_mulw ?_
                        intro z7 hz7 ez7
                        refine w_iln rfl ?_
                        refine w_addw ?_
                        intro z8 hz8 ez8
                        refine w_bp ?_
                        refine w_subw ?_
                        intro z9 hz9 ez9
                        refine w_pi ht rfl (by decide) rfl (fun q => by cases q) ?_
                        refine w_aln rfl ?_
                        refine w_dupr ?_
                        refine w_gi ht rfl (by decide) rfl ((hn_n (Or.inr (by decide))).trans (fh)) ?_
                        refine w_ic ?_
                        refine w_add ⟨by show (-2147483648 : Int) ≤ ((q + k : Nat) : Int) + 1; omega, by show ((q + k : Nat) : Int) + 1 < (2147483648 : Int); omega⟩ ?_
                        refine w_pi ht rfl (by decide) rfl (fun q => by cases q) ?_
                        refine w_goto ?_
                        have en := rv_nl_n (q := q) (k := k) (rv_le_f l0)
                        have e1 : ((rv_nl B q k : Nat) : Int) = ((rv_nl B q (k + 1) : Nat) : Int) := by omega
                        have e2 : ((k - rv_nl B q k : Nat) : Int) + 1 = ((k + 1 - rv_nl B q (k + 1) : Nat) : Int) := by omega
                        have er : rv_rn B n (f + 1) (q + k) = rv_rn B n f (q + (k + 1)) := if_pos ⟨by omega, rv_an_d d1 d2⟩
                        have ih1 := ih (k + 1) ((mj_p0 (mj_p0 M tp 6 z9) tp 11 (((q + k : Nat) : Int) + 1))) (some (.inl (B (q + k)))) cb sb (by omega) (by omega) f0 ((hn_n (Or.inr (by decide))).trans ((hn_n (Or.inr (by decide))).trans (fs))) (hn_s.trans (by omega)) (fun g => by exfalso; omega) (fun g g3 => by
                          obtain ⟨u1, u2, u3, u4, u5, u6⟩ := hu (by omega) (by omega)
                          have q1 := rv_wm ez7 ⟨by omega, by omega⟩
                          have q2 := rv_wa ez8 ⟨by omega, by omega⟩
                          have q3 := rv_ws ez9 ⟨by omega, by omega⟩
                          have q4 : ((mj_p0 (mj_p0 M tp 6 z9) tp 11 (((q + k : Nat) : Int) + 1))).1 tp 6 = z9 := (hn_n (Or.inr (by decide))).trans hn_s
                          rw [q4]
                          refine ⟨?_, by omega, fun h => by omega, fun h => by omega, fun h => by omega, by omega⟩
                          show _ = 10 * rv_nu B q k + B (q + k) - 48
                          omega) (fun j => by rw [show ((mj_p0 (mj_p0 M tp 6 z9) tp 11 (((q + k : Nat) : Int) + 1))).1 bc j = M.1 bc j from (hn_n (Or.inl ne)).trans ((hn_n (Or.inl ne)))]; exact fb j) (fun k' M' v3 g0 g1 g2 g3 g3b g4 g5 g6 => hK k' M' v3 (er.trans g0) g1 g2 (rv_o.tr (M' := (mj_p0 (mj_p0 M tp 6 z9) tp 11 (((q + k : Nat) : Int) + 1))) ((rv_o.st (a := tp) (j := 6) (by decide)).tr (rv_o.st (a := tp) (j := 11) (by decide))) g3) g3b (fun a j g => g4 a j g) g5 g6)
                        rw [← e1, ← e2] at ih1
                        exact ih1
                      · exfalso; omega
              · skip
                refine w_ifeq (fun c10 => ?_) (fun c10 => ?_)
                · skip
                  exact hK k M v3 (if_neg (fun h => rv_an_n l0 d0 h.2)) hq fh rv_o.rf rfl (fun _ _ _ => rfl) hc hu
                · exfalso; omega
end
section
/-! ===== the class's readRun (laid by a program) ===== -/
theorem rv_o.up {a : Nat} {ks ks' : List Nat} {M M' : mj_M} (h : rv_o a ks M M') (hs : ∀ k, k ∈ ks → k ∈ ks') : rv_o a ks' M M' := fun x k q => h x k (fun e => q ⟨e.1, hs k e.2⟩)
/-- the word of a code: one of the known ones, or none -/
def rv_wd (G : mj_G) (c : Int64) (r : Option Nat) : Prop := (∃ j w, j < 24 ∧ mj_wc.getD j 0 = c ∧ G w = (900050 + 1000 * j, 0) ∧ r = some w) ∨ ((∀ j, j < 24 → mj_wc.getD j 0 ≠ c) ∧ r = none)
/-- what readRun leaves, of a run of k bytes from q on -/
def rv_run (G : mj_G) (B : Nat → Int) (tp q k : Nat) (M M' : mj_M) : Prop := M'.1 tp 11 = ((q + k : Nat) : Int) ∧ rv_o tp [4, 6, 11] M M' ∧ (∀ a j, ¬ (a = tp ∧ j = 8) → M'.2.1 a j = M.2.1 a j) ∧ (∀ a j, ¬ (a = tp ∧ j = 9) → M'.2.2 a j = M.2.2 a j) ∧
  ((rv_nl B q k = k ∧ k ≤ 8 ∧ M'.1 tp 4 = 1 ∧ M'.2.1 tp 8 = rv_c5 B q k ∧ rv_wd G (rv_c5 B q k) (M'.2.2 tp 9)) ∨ (¬ (rv_nl B q k = k ∧ k ≤ 8) ∧ rv_nl B q k = 0 ∧ k ≤ 3 ∧ M'.1 tp 4 = 2 ∧ rv_nk B q k (M'.1 tp 6) ∧ M'.2.2 tp 9 = M.2.2 tp 9) ∨ (¬ (rv_nl B q k = k ∧ k ≤ 8) ∧ ¬ (rv_nl B q k = 0 ∧ k ≤ 3) ∧ M'.1 tp 4 = 4 ∧ M'.2.2 tp 9 = M.2.2 tp 9))
theorem r_X7_readRun {d tp bc n q : Nat} {B : Nat → Int} {G : mj_G} {M : mj_M} {Q : mj_P} (ht : G tp = (1008, 0)) (hb : G bc = (38101, 940)) (hn : n ≤ 940) (hw : rv_wl G M) (hq : q ≤ n) (f0 : M.2.2 tp 0 = some bc) (fs : M.1 tp 1 = (n : Int)) (fh : M.1 tp 11 = (q : Int)) (f6 : M.1 tp 6 = 0) (f8 : M.2.1 tp 8 = 0) (fb : ∀ k, rv_u8 (M.1 bc k) = B k) (hQ : ∀ k M', rv_rn B n (n - q) q = q + k → q + k ≤ n → rv_run G B tp q k M M' → Q none G M') : mj_R mj_tab (d + 2) 82 [.inr (.inr (some tp))] G M Q := by
  refine ⟨Nat.le_of_ble_eq_true rfl, ?_⟩
  show wz (d + 1) mt_X7_readRun.2.2.2.2.1 Q mt_X7_readRun.2.2.2.2.1 [some (.inr (.inr (some tp))), none, none, none] [] G M _ _
  refine w_ic ?_
  refine w_isn ?_
  refine w_ic ?_
  refine w_isn ?_
  refine r_run1 (q := q) (B := B) ht hb hn (n - q) 0 M none _ _ (by omega) (by omega) f0 fs fh (fun _ => f8) (fun _ _ => ⟨f6, by omega, fun _ => by omega, fun _ => by omega, fun _ => by omega, by omega⟩) fb (fun k M1 v3 g0 gn g2 g3 g3b g4 g5 g6 => ?_)
  have hl := rv_nl_le B q k
  have hw1 : rv_wl G M1 := by unfold rv_wl; rw [g3b]; exact hw
  have gr : ∀ a j, M1.2.2 a j = M.2.2 a j := fun a j => by rw [g3b]
  refine w_aln rfl ?_
  refine w_ic ?_
  refine w_pi ht rfl (by decide) rfl (fun q => by cases q) ?_
  refine w_iln rfl ?_
  refine w_ifne (fun c1 => ?_) (fun c1 => ?_)
  · skip
    refine w_iln rfl ?_
    refine w_ifne (fun c2 => ?_) (fun c2 => ?_)
    · skip
      exact w_ret (hQ k ((mj_p0 M1 tp 4 4)) g0 gn ⟨(hn_n (Or.inr (by decide))).trans (g2), (rv_o.tr (g3.up (by decide)) (rv_o.st (a := tp) (j := 4) (by decide))), g4, (fun a j _ => gr a j), Or.inr (Or.inr ⟨by omega, by omega, hn_s, gr tp 9⟩)⟩)
    · skip
      refine w_iln rfl ?_
      refine w_ic ?_
      refine w_cmgt (fun c3 => ?_) (fun c3 => ?_)
      · skip
        exact w_ret (hQ k ((mj_p0 M1 tp 4 4)) g0 gn ⟨(hn_n (Or.inr (by decide))).trans (g2), (rv_o.tr (g3.up (by decide)) (rv_o.st (a := tp) (j := 4) (by decide))), g4, (fun a j _ => gr a j), Or.inr (Or.inr ⟨by omega, by omega, hn_s, gr tp 9⟩)⟩)
      · skip
        refine w_aln rfl ?_
        refine w_ic ?_
        refine w_pi ht rfl (by decide) rfl (fun q => by cases q) ?_
        exact w_ret (hQ k ((mj_p0 (mj_p0 M1 tp 4 4) tp 4 2)) g0 gn ⟨(hn_n (Or.inr (by decide))).trans ((hn_n (Or.inr (by decide))).trans (g2)), (rv_o.tr (rv_o.tr (g3.up (by decide)) (rv_o.st (a := tp) (j := 4) (by decide))) (rv_o.st (a := tp) (j := 4) (by decide))), g4, (fun a j _ => gr a j), Or.inr (Or.inl ⟨by omega, by omega, by omega, hn_s, by rw [show ((mj_p0 (mj_p0 M1 tp 4 4) tp 4 2)).1 tp 6 = M1.1 tp 6 from (hn_n (Or.inr (by decide))).trans ((hn_n (Or.inr (by decide))))]; exact g6 (by omega) (by omega), gr tp 9⟩)⟩)
  · skip
    refine w_iln rfl ?_
    refine w_bp ?_
    refine w_cmgt (fun c4 => ?_) (fun c4 => ?_)
    · skip
      refine w_iln rfl ?_
      refine w_ifne (fun c5 => ?_) (fun c5 => ?_)
      · skip
        exact w_ret (hQ k ((mj_p0 M1 tp 4 4)) g0 gn ⟨(hn_n (Or.inr (by decide))).trans (g2), (rv_o.tr (g3.up (by decide)) (rv_o.st (a := tp) (j := 4) (by decide))), g4, (fun a j _ => gr a j), Or.inr (Or.inr ⟨by omega, by omega, hn_s, gr tp 9⟩)⟩)
      · skip
        refine w_iln rfl ?_
        refine w_ic ?_
        refine w_cmgt (fun c6 => ?_) (fun c6 => ?_)
        · skip
          exact w_ret (hQ k ((mj_p0 M1 tp 4 4)) g0 gn ⟨(hn_n (Or.inr (by decide))).trans (g2), (rv_o.tr (g3.up (by decide)) (rv_o.st (a := tp) (j := 4) (by decide))), g4, (fun a j _ => gr a j), Or.inr (Or.inr ⟨by omega, by omega, hn_s, gr tp 9⟩)⟩)
        · skip
          refine w_aln rfl ?_
          refine w_ic ?_
          refine w_pi ht rfl (by decide) rfl (fun q => by cases q) ?_
          exact w_ret (hQ k ((mj_p0 (mj_p0 M1 tp 4 4) tp 4 2)) g0 gn ⟨(hn_n (Or.inr (by decide))).trans ((hn_n (Or.inr (by decide))).trans (g2)), (rv_o.tr (rv_o.tr (g3.up (by decide)) (rv_o.st (a := tp) (j := 4) (by decide))) (rv_o.st (a := tp) (j := 4) (by decide))), g4, (fun a j _ => gr a j), Or.inr (Or.inl ⟨by omega, by omega, by omega, hn_s, by rw [show ((mj_p0 (mj_p0 M1 tp 4 4) tp 4 2)).1 tp 6 = M1.1 tp 6 from (hn_n (Or.inr (by decide))).trans ((hn_n (Or.inr (by decide))))]; exact g6 (by omega) (by omega), gr tp 9⟩)⟩)
    · skip
      refine w_aln rfl ?_
      refine w_ic ?_
      refine w_pi ht rfl (by decide) rfl (fun q => by cases q) ?_
      refine w_aln rfl ?_
      refine w_aln rfl ?_
      refine w_gl ht rfl (by decide) rfl (rfl) ?_
      refine w_cs (st := [.inr (.inr (some tp))]) rfl (Nat.le_of_ble_eq_true rfl) (fun kk h => h) (r_X9_find (d := d) hw1 (fun j w j1 j2 j3 => ?_) (fun j0 => ?_))
      · skip
        refine w_pr ht rfl (by decide) rfl ?_
        refine w_goto ?_
        exact w_ret (hQ k ((mj_p2 (mj_p0 (mj_p0 M1 tp 4 4) tp 4 1) tp 9 (some w))) g0 gn ⟨(hn_n (Or.inr (by decide))).trans ((hn_n (Or.inr (by decide))).trans (g2)), (rv_o.tr (rv_o.tr (g3.up (by decide)) (rv_o.st (a := tp) (j := 4) (by decide))) (rv_o.st (a := tp) (j := 4) (by decide))), g4, (fun a j g => (wz_nr (Decidable.not_and_iff_or_not.mp g)).trans (gr a j)), Or.inl ⟨by omega, by omega, hn_s, g5 (by omega), Or.inl ⟨j, w, j1, j2.trans (g5 (by omega)), j3, wz_sr⟩⟩⟩)
      · skip
        refine w_pr ht rfl (by decide) rfl ?_
        refine w_goto ?_
        exact w_ret (hQ k ((mj_p2 (mj_p0 (mj_p0 M1 tp 4 4) tp 4 1) tp 9 none)) g0 gn ⟨(hn_n (Or.inr (by decide))).trans ((hn_n (Or.inr (by decide))).trans (g2)), (rv_o.tr (rv_o.tr (g3.up (by decide)) (rv_o.st (a := tp) (j := 4) (by decide))) (rv_o.st (a := tp) (j := 4) (by decide))), g4, (fun a j g => (wz_nr (Decidable.not_and_iff_or_not.mp g)).trans (gr a j)), Or.inl ⟨by omega, by omega, hn_s, g5 (by omega), Or.inr ⟨fun j q h => j0 j q (h.trans (g5 (by omega)).symm), wz_sr⟩⟩⟩)
end
section
/-! ===== the class's advance (laid by a program) ===== -/
theorem rv_wl.p2 {G : mj_G} {M : mj_M} {tp j : Nat} {z : Option Nat} (h : rv_wl G M) (ht : G tp = (1008, 0)) : rv_wl G (mj_p2 M tp j z) := fun a ha k hk => by
  obtain ⟨w, w1, w2⟩ := h a ha k hk
  exact ⟨w, (wz_nr (Or.inl (fun e => by rw [e, ht] at ha; cases ha))).trans w1, w2⟩
/-- the token that a run of k bytes from q on is -/
def rv_rk (G : mj_G) (B : Nat → Int) (tp q k : Nat) (M' : mj_M) : Prop := (rv_nl B q k = k ∧ k ≤ 8 ∧ M'.1 tp 4 = 1 ∧ M'.2.1 tp 8 = rv_c5 B q k ∧ rv_wd G (rv_c5 B q k) (M'.2.2 tp 9)) ∨ (¬ (rv_nl B q k = k ∧ k ≤ 8) ∧ rv_nl B q k = 0 ∧ k ≤ 3 ∧ M'.1 tp 4 = 2 ∧ rv_nk B q k (M'.1 tp 6) ∧ M'.2.2 tp 9 = none) ∨ (¬ (rv_nl B q k = k ∧ k ≤ 8) ∧ ¬ (rv_nl B q k = 0 ∧ k ≤ 3) ∧ M'.1 tp 4 = 4 ∧ M'.2.2 tp 9 = none)
/-- what advance leaves, from p on, with n bytes of which e are read -/
def rv_adv (G : mj_G) (B : Nat → Int) (n e tp p q : Nat) (M M' : mj_M) : Prop := rv_o tp [4, 5, 6, 7, 11] M M' ∧ (∀ a j, ¬ (a = tp ∧ j = 8) → M'.2.1 a j = M.2.1 a j) ∧ (∀ a j, ¬ (a = tp ∧ j = 9) → M'.2.2 a j = M.2.2 a j) ∧
  ((e ≤ q ∧ M'.1 tp 4 = 0 ∧ M'.1 tp 5 = (e : Int) ∧ M'.1 tp 11 = (q : Int) ∧ M'.2.2 tp 9 = none) ∨ (q < e ∧ rv_an (B q) = true ∧ M'.1 tp 5 = (q : Int) ∧ ∃ k, rv_rn B n (n - q) q = q + k ∧ q + k ≤ n ∧ M'.1 tp 11 = ((q + k : Nat) : Int) ∧ rv_rk G B tp q k M') ∨ (q < e ∧ ¬ rv_an (B q) = true ∧ M'.1 tp 5 = (q : Int) ∧ M'.1 tp 4 = 3 ∧ M'.1 tp 7 = B q ∧ M'.1 tp 11 = ((q + 1 : Nat) : Int) ∧ M'.2.2 tp 9 = none))
theorem r_X7_advance {d tp bc n lim p : Nat} {B : Nat → Int} {G : mj_G} {M : mj_M} {Q : mj_P} (ht : G tp = (1008, 0)) (hb : G bc = (38101, 940)) (hn : n ≤ 940) (hlim : lim ≤ 940) (hw : rv_wl G M) (hp : p ≤ n) (f0 : M.2.2 tp 0 = some bc) (fs : M.1 tp 1 = (n : Int)) (fm : M.1 tp 10 = (lim : Int)) (fh : M.1 tp 11 = (p : Int)) (fb : ∀ k, rv_u8 (M.1 bc k) = B k) (hQ : ∀ M', rv_adv G B n (min n lim) tp p (rv_sk B (min n lim) (min n lim - p) p) M M' → Q none G M') : mj_R mj_tab (d + 3) 69 [.inr (.inr (some tp))] G M Q := by
  have ne : bc ≠ tp := hn_ne hb ht (by decide)
  refine ⟨Nat.le_of_ble_eq_true rfl, ?_⟩
  show wz (d + 2) mt_X7_advance.2.2.2.2.1 Q mt_X7_advance.2.2.2.2.1 [some (.inr (.inr (some tp))), none] [] G M _ _
  refine w_aln rfl ?_
  refine w_gi ht rfl (by decide) rfl fs ?_
  refine w_aln rfl ?_
  refine w_gi ht rfl (by decide) rfl fm ?_
  refine w_min (Nat.le_of_ble_eq_true rfl) (fun z m1 m2 => ?_)
  have ez : z = ((min n lim : Nat) : Int) := by
    by_cases c : (lim : Int) < (n : Int)
    · rw [m1 c]; omega
    · rw [m2 c]; omega
  subst ez
  refine w_isn ?_
  generalize he : min n lim = e at *
  have hen : e ≤ n := by omega
  refine r_adv1 (d := d + 1) (e := e) (B := B) ht hb hn hen (e - p) p M _ _ (by omega) f0 fs fh fb (fun M1 g1 g2 g3 => ?_)
  generalize hq : rv_sk B e (e - p) p = q at *
  have g22 : ∀ a j, M1.2.2 a j = M.2.2 a j := fun a j => by rw [g3]
  have g21 : ∀ a j, M1.2.1 a j = M.2.1 a j := fun a j => by rw [g3]
  have f01 : M1.2.2 tp 0 = some bc := (g22 tp 0).trans f0
  have fs1 : M1.1 tp 1 = (n : Int) := (g2 tp 1 (by rintro ⟨-, h⟩; revert h; decide)).trans fs
  have fb1 : ∀ k, rv_u8 (M1.1 bc k) = B k := fun k => by rw [g2 bc k (fun h => ne h.1)]; exact fb k
  have hw1 : rv_wl G M1 := by unfold rv_wl; rw [g3]; exact hw
  have o1 : rv_o tp [4, 5, 6, 7, 11] M M1 := g2.up (by decide)
  refine w_aln rfl ?_
  refine w_nu ?_
  refine w_pr ht rfl (by decide) rfl ?_
  refine w_aln rfl ?_
  refine w_lc ?_
  refine w_pl ht rfl (by decide) rfl ?_
  refine w_aln rfl ?_
  refine w_ic ?_
  refine w_pi ht rfl (by decide) rfl (fun q => by cases q) ?_
  refine w_aln rfl ?_
  refine w_ic ?_
  refine w_pi ht rfl (by decide) rfl (fun q => by cases q) ?_
  refine w_aln rfl ?_
  refine w_gi ht rfl (by decide) rfl ((hn_n (Or.inr (by decide))).trans ((hn_n (Or.inr (by decide))).trans (g1))) ?_
  refine w_iln rfl ?_
  refine w_cmlt (fun c1 => ?_) (fun c1 => ?_)
  · skip
    refine w_aln rfl ?_
    refine w_aln rfl ?_
    refine w_gi ht rfl (by decide) rfl ((hn_n (Or.inr (by decide))).trans ((hn_n (Or.inr (by decide))).trans (g1))) ?_
    refine w_pi ht rfl (by decide) rfl (fun q => by cases q) ?_
    refine w_aln rfl ?_
    refine w_aln rfl ?_
    refine w_gi ht rfl (by decide) rfl ((hn_n (Or.inr (by decide))).trans ((hn_n (Or.inr (by decide))).trans ((hn_n (Or.inr (by decide))).trans (g1)))) ?_
    refine w_cv (st := []) rfl ht rfl (Nat.le_of_ble_eq_true rfl) (fun kk h => h) (r_X7_valueAt (d := d + 1) (p := q) (B := B) ht hb hn ((wz_nr (Or.inr (by decide))).trans (f01)) ((hn_n (Or.inr (by decide))).trans ((hn_n (Or.inr (by decide))).trans ((hn_n (Or.inr (by decide))).trans (fs1)))) (fun j => Eq.trans (congrArg rv_u8 ((hn_n (Or.inl ne)).trans ((hn_n (Or.inl ne)).trans ((hn_n (Or.inl ne)))))) (fb1 j)) (fun c => ?_) (fun c => by exfalso; omega))
    · skip
      refine w_cs (st := []) rfl (Nat.le_of_ble_eq_true rfl) (fun kk h => h) (r_X7_isLetter (d := d + 1) (fun l1 l2 => ?_) (fun l0 => ?_))
      · skip
        refine w_ifne (fun c2 => ?_) (fun c2 => ?_)
        · skip
          refine w_aln rfl ?_
          refine w_cv (st := []) rfl ht rfl (Nat.le_of_ble_eq_true rfl) (fun kk h => h) (r_X7_readRun (d := d) (q := q) (B := B) ht hb hn (hw1.p2 ht) (by omega) ((wz_nr (Or.inr (by decide))).trans (f01)) ((hn_n (Or.inr (by decide))).trans ((hn_n (Or.inr (by decide))).trans ((hn_n (Or.inr (by decide))).trans (fs1)))) ((hn_n (Or.inr (by decide))).trans ((hn_n (Or.inr (by decide))).trans ((hn_n (Or.inr (by decide))).trans (g1)))) ((hn_n (Or.inr (by decide))).trans ((hn_n (Or.inr (by decide))).trans (hn_s))) wz_sl (fun j => Eq.trans (congrArg rv_u8 ((hn_n (Or.inl ne)).trans ((hn_n (Or.inl ne)).trans ((hn_n (Or.inl ne)))))) (fb1 j)) (fun k M2 r0 rn r => ?_))
          · skip
            refine w_goto ?_
            obtain ⟨r1, r2, r3, r4, r5⟩ := r
            refine w_ret (hQ M2 ⟨rv_o.tr (rv_o.tr (rv_o.tr (rv_o.tr o1 (rv_o.st (a := tp) (j := 6) (by decide))) (rv_o.st (a := tp) (j := 7) (by decide))) (rv_o.st (a := tp) (j := 5) (by decide))) (r2.up (by decide)), fun a j g => (r3 a j g).trans ((fun a j g => (wz_nl (Decidable.not_and_iff_or_not.mp g)).trans (g21 a j)) a j g), fun a j g => (r4 a j g).trans ((fun a j g => (wz_nr (Decidable.not_and_iff_or_not.mp g)).trans (g22 a j)) a j g), Or.inr (Or.inl ⟨by omega, rv_an_l l1 l2, (r2 tp 5 (by rintro ⟨-, h⟩; revert h; decide)).trans (hn_s), k, r0, rn, r1, ?_⟩)⟩)
            rcases r5 with r5 | ⟨u1, u2, u3, u4, u5, u6⟩ | ⟨u1, u2, u3, u4⟩
            · exact Or.inl r5
            · exact Or.inr (Or.inl ⟨u1, u2, u3, u4, u5, u6.trans wz_sr⟩)
            · exact Or.inr (Or.inr ⟨u1, u2, u3, u4.trans wz_sr⟩)
        · exfalso; omega
      · skip
        refine w_ifne (fun c3 => ?_) (fun c3 => ?_)
        · exfalso; omega
        · skip
          refine w_aln rfl ?_
          refine w_aln rfl ?_
          refine w_gi ht rfl (by decide) rfl ((hn_n (Or.inr (by decide))).trans ((hn_n (Or.inr (by decide))).trans ((hn_n (Or.inr (by decide))).trans (g1)))) ?_
          refine w_cv (st := []) rfl ht rfl (Nat.le_of_ble_eq_true rfl) (fun kk h => h) (r_X7_valueAt (d := d + 1) (p := q) (B := B) ht hb hn ((wz_nr (Or.inr (by decide))).trans (f01)) ((hn_n (Or.inr (by decide))).trans ((hn_n (Or.inr (by decide))).trans ((hn_n (Or.inr (by decide))).trans (fs1)))) (fun j => Eq.trans (congrArg rv_u8 ((hn_n (Or.inl ne)).trans ((hn_n (Or.inl ne)).trans ((hn_n (Or.inl ne)))))) (fb1 j)) (fun c => ?_) (fun c => by exfalso; omega))
          · skip
            refine w_cs (st := []) rfl (Nat.le_of_ble_eq_true rfl) (fun kk h => h) (r_X7_isDigit (d := d + 1) (fun d1 d2 => ?_) (fun d0 => ?_))
            · skip
              refine w_ifeq (fun c4 => ?_) (fun c4 => ?_)
              · exfalso; omega
              · skip
                refine w_aln rfl ?_
                refine w_cv (st := []) rfl ht rfl (Nat.le_of_ble_eq_true rfl) (fun kk h => h) (r_X7_readRun (d := d) (q := q) (B := B) ht hb hn (hw1.p2 ht) (by omega) ((wz_nr (Or.inr (by decide))).trans (f01)) ((hn_n (Or.inr (by decide))).trans ((hn_n (Or.inr (by decide))).trans ((hn_n (Or.inr (by decide))).trans (fs1)))) ((hn_n (Or.inr (by decide))).trans ((hn_n (Or.inr (by decide))).trans ((hn_n (Or.inr (by decide))).trans (g1)))) ((hn_n (Or.inr (by decide))).trans ((hn_n (Or.inr (by decide))).trans (hn_s))) wz_sl (fun j => Eq.trans (congrArg rv_u8 ((hn_n (Or.inl ne)).trans ((hn_n (Or.inl ne)).trans ((hn_n (Or.inl ne)))))) (fb1 j)) (fun k M2 r0 rn r => ?_))
                · skip
                  refine w_goto ?_
                  obtain ⟨r1, r2, r3, r4, r5⟩ := r
                  refine w_ret (hQ M2 ⟨rv_o.tr (rv_o.tr (rv_o.tr (rv_o.tr o1 (rv_o.st (a := tp) (j := 6) (by decide))) (rv_o.st (a := tp) (j := 7) (by decide))) (rv_o.st (a := tp) (j := 5) (by decide))) (r2.up (by decide)), fun a j g => (r3 a j g).trans ((fun a j g => (wz_nl (Decidable.not_and_iff_or_not.mp g)).trans (g21 a j)) a j g), fun a j g => (r4 a j g).trans ((fun a j g => (wz_nr (Decidable.not_and_iff_or_not.mp g)).trans (g22 a j)) a j g), Or.inr (Or.inl ⟨by omega, rv_an_d d1 d2, (r2 tp 5 (by rintro ⟨-, h⟩; revert h; decide)).trans (hn_s), k, r0, rn, r1, ?_⟩)⟩)
                  rcases r5 with r5 | ⟨u1, u2, u3, u4, u5, u6⟩ | ⟨u1, u2, u3, u4⟩
                  · exact Or.inl r5
                  · exact Or.inr (Or.inl ⟨u1, u2, u3, u4, u5, u6.trans wz_sr⟩)
                  · exact Or.inr (Or.inr ⟨u1, u2, u3, u4.trans wz_sr⟩)
            · skip
              refine w_ifeq (fun c5 => ?_) (fun c5 => ?_)
              · skip
                refine w_aln rfl ?_
                refine w_ic ?_
                refine w_pi ht rfl (by decide) rfl (fun q => by cases q) ?_
                refine w_aln rfl ?_
                refine w_aln rfl ?_
                refine w_aln rfl ?_
                refine w_gi ht rfl (by decide) rfl ((hn_n (Or.inr (by decide))).trans ((hn_n (Or.inr (by decide))).trans ((hn_n (Or.inr (by decide))).trans ((hn_n (Or.inr (by decide))).trans (g1))))) ?_
                refine w_cv (st := [.inr (.inr (some tp))]) rfl ht rfl (Nat.le_of_ble_eq_true rfl) (fun kk h => h) (r_X7_valueAt (d := d + 1) (p := q) (B := B) ht hb hn ((wz_nr (Or.inr (by decide))).trans (f01)) ((hn_n (Or.inr (by decide))).trans ((hn_n (Or.inr (by decide))).trans ((hn_n (Or.inr (by decide))).trans ((hn_n (Or.inr (by decide))).trans (fs1))))) (fun j => Eq.trans (congrArg rv_u8 ((hn_n (Or.inl ne)).trans ((hn_n (Or.inl ne)).trans ((hn_n (Or.inl ne)).trans ((hn_n (Or.inl ne))))))) (fb1 j)) (fun c => ?_) (fun c => by exfalso; omega))
                · skip
                  refine w_pi ht rfl (by decide) rfl (fun q => by cases q) ?_
                  refine w_aln rfl ?_
                  refine w_dupr ?_
                  refine w_gi ht rfl (by decide) rfl ((hn_n (Or.inr (by decide))).trans ((hn_n (Or.inr (by decide))).trans ((hn_n (Or.inr (by decide))).trans ((hn_n (Or.inr (by decide))).trans ((hn_n (Or.inr (by decide))).trans (g1)))))) ?_
                  refine w_ic ?_
                  refine w_add ⟨by show (-2147483648 : Int) ≤ (q : Int) + 1; omega, by show (q : Int) + 1 < (2147483648 : Int); omega⟩ ?_
                  refine w_pi ht rfl (by decide) rfl (fun q => by cases q) ?_
                  exact w_ret (hQ _ ⟨(rv_o.tr (rv_o.tr (rv_o.tr (rv_o.tr (rv_o.tr (rv_o.tr o1 (rv_o.st (a := tp) (j := 6) (by decide))) (rv_o.st (a := tp) (j := 7) (by decide))) (rv_o.st (a := tp) (j := 5) (by decide))) (rv_o.st (a := tp) (j := 4) (by decide))) (rv_o.st (a := tp) (j := 7) (by decide))) (rv_o.st (a := tp) (j := 11) (by decide))), (fun a j g => (wz_nl (Decidable.not_and_iff_or_not.mp g)).trans (g21 a j)), (fun a j g => (wz_nr (Decidable.not_and_iff_or_not.mp g)).trans (g22 a j)), Or.inr (Or.inr ⟨by omega, rv_an_n l0 d0, (hn_n (Or.inr (by decide))).trans ((hn_n (Or.inr (by decide))).trans ((hn_n (Or.inr (by decide))).trans (hn_s))), (hn_n (Or.inr (by decide))).trans ((hn_n (Or.inr (by decide))).trans (hn_s)), (hn_n (Or.inr (by decide))).trans (hn_s), (hn_s).trans (by omega), wz_sr⟩)⟩)
              · exfalso; omega
  · skip
    refine w_aln rfl ?_
    refine w_ic ?_
    refine w_pi ht rfl (by decide) rfl (fun q => by cases q) ?_
    refine w_aln rfl ?_
    refine w_iln rfl ?_
    refine w_pi ht rfl (by decide) rfl (fun q => by cases q) ?_
    exact w_ret (hQ _ ⟨(rv_o.tr (rv_o.tr (rv_o.tr (rv_o.tr o1 (rv_o.st (a := tp) (j := 6) (by decide))) (rv_o.st (a := tp) (j := 7) (by decide))) (rv_o.st (a := tp) (j := 4) (by decide))) (rv_o.st (a := tp) (j := 5) (by decide))), (fun a j g => (wz_nl (Decidable.not_and_iff_or_not.mp g)).trans (g21 a j)), (fun a j g => (wz_nr (Decidable.not_and_iff_or_not.mp g)).trans (g22 a j)), Or.inl ⟨by omega, (hn_n (Or.inr (by decide))).trans (hn_s), hn_s, (hn_n (Or.inr (by decide))).trans ((hn_n (Or.inr (by decide))).trans ((hn_n (Or.inr (by decide))).trans ((hn_n (Or.inr (by decide))).trans (g1)))), wz_sr⟩⟩)
end
section
/-! ===== the reference's next: blanks are skipped (laid by a program) ===== -/
theorem r_nxt1 {d m br n : Nat} {B : Nat → Int} {G : mj_G} {Q : mj_P} (hm : G m = (1012, 0)) (hb : G br = (50101, 940)) (hn : n ≤ 940) : ∀ (f p : Nat) (M : mj_M) (cb sb : Nat), n ≤ p + f → M.2.2 m 1 = some br → M.1 m 3 = (n : Int) → M.1 m 4 = (p : Int) → (∀ k, rv_u8 (M.1 br k) = B k) →
    (∀ M', M'.1 m 4 = ((rv_sk B n f p : Nat) : Int) → rv_o m [4] M M' → M'.2 = M.2 → wz (d + 1) mt_X12_next.2.2.2.2.1 Q (mt_X12_next.2.2.2.2.1.drop 15) [some (.inr (.inr (some m))), none, none, none] [] G M' cb sb) → wz (d + 1) mt_X12_next.2.2.2.2.1 Q mt_X12_next.2.2.2.2.1 [some (.inr (.inr (some m))), none, none, none] [] G M cb sb := by
  have ne : br ≠ m := hn_ne hb hm (by decide)
  intro f
  induction f with
  | zero =>
    intro p M cb sb hf f1 fs fh fb hK
    refine w_aln rfl ?_
    refine w_cv (st := []) rfl hm rfl (Nat.le_of_ble_eq_true rfl) (fun kk h => h) (r_X12_peek (d := d) (p := p) (B := B) hm hb hn f1 (fs) (fh) fb (fun c => by exfalso; omega) (fun c => ?_))
    · skip
      refine w_bp ?_
      refine w_cmeq (fun c1 => ?_) (fun c1 => ?_)
      · exfalso; omega
      · skip
        refine w_aln rfl ?_
        refine w_cv (st := []) rfl hm rfl (Nat.le_of_ble_eq_true rfl) (fun kk h => h) (r_X12_peek (d := d) (p := p) (B := B) hm hb hn f1 (fs) (fh) fb (fun c => by exfalso; omega) (fun c => ?_))
        · skip
          refine w_bp ?_
          refine w_cmne (fun c2 => ?_) (fun c2 => ?_)
          · skip
            exact hK M fh rv_o.rf rfl
          · exfalso; omega
  | succ f ih =>
    intro p M cb sb hf f1 fs fh fb hK
    refine w_aln rfl ?_
    refine w_cv (st := []) rfl hm rfl (Nat.le_of_ble_eq_true rfl) (fun kk h => h) (r_X12_peek (d := d) (p := p) (B := B) hm hb hn f1 (fs) (fh) fb (fun ci => ?_) (fun ci => ?_))
    · skip
      refine w_bp ?_
      refine w_cmeq (fun c1 => ?_) (fun c1 => ?_)
      · skip
        refine w_aln rfl ?_
        refine w_dupr ?_
        refine w_gi hm rfl (by decide) rfl (fh) ?_
        refine w_ic ?_
        refine w_add ⟨by show (-2147483648 : Int) ≤ (p : Int) + 1; omega, by show (p : Int) + 1 < (2147483648 : Int); omega⟩ ?_
        refine w_pi hm rfl (by decide) rfl (fun q => by cases q) ?_
        refine w_goto ?_
        refine ih (p + 1) _ cb sb (by omega) f1 ((hn_n (Or.inr (by decide))).trans fs) (hn_s.trans (by omega)) (fun k => Eq.trans (congrArg rv_u8 (hn_n (Or.inl ne))) (fb k)) (fun M' e1 e2 e3 => hK M' ?_ (rv_o.tr (rv_o.st (by decide)) e2) e3)
        rw [e1, show rv_sk B n (f + 1) p = rv_sk B n f (p + 1) from if_pos (by omega)]
      · skip
        refine w_aln rfl ?_
        refine w_cv (st := []) rfl hm rfl (Nat.le_of_ble_eq_true rfl) (fun kk h => h) (r_X12_peek (d := d) (p := p) (B := B) hm hb hn f1 (fs) (fh) fb (fun c => ?_) (fun c => by exfalso; omega))
        · skip
          refine w_bp ?_
          refine w_cmne (fun c2 => ?_) (fun c2 => ?_)
          · skip
            refine hK M ?_ rv_o.rf rfl
            rw [show rv_sk B n (f + 1) p = p from if_neg (by omega)]; exact fh
          · skip
            refine w_aln rfl ?_
            refine w_dupr ?_
            refine w_gi hm rfl (by decide) rfl (fh) ?_
            refine w_ic ?_
            refine w_add ⟨by show (-2147483648 : Int) ≤ (p : Int) + 1; omega, by show (p : Int) + 1 < (2147483648 : Int); omega⟩ ?_
            refine w_pi hm rfl (by decide) rfl (fun q => by cases q) ?_
            refine w_goto ?_
            refine ih (p + 1) _ cb sb (by omega) f1 ((hn_n (Or.inr (by decide))).trans fs) (hn_s.trans (by omega)) (fun k => Eq.trans (congrArg rv_u8 (hn_n (Or.inl ne))) (fb k)) (fun M' e1 e2 e3 => hK M' ?_ (rv_o.tr (rv_o.st (by decide)) e2) e3)
            rw [e1, show rv_sk B n (f + 1) p = rv_sk B n f (p + 1) from if_pos (by omega)]
    · skip
      refine w_bp ?_
      refine w_cmeq (fun c3 => ?_) (fun c3 => ?_)
      · exfalso; omega
      · skip
        refine w_aln rfl ?_
        refine w_cv (st := []) rfl hm rfl (Nat.le_of_ble_eq_true rfl) (fun kk h => h) (r_X12_peek (d := d) (p := p) (B := B) hm hb hn f1 (fs) (fh) fb (fun c => by exfalso; omega) (fun c => ?_))
        · skip
          refine w_bp ?_
          refine w_cmne (fun c4 => ?_) (fun c4 => ?_)
          · skip
            refine hK M ?_ rv_o.rf rfl
            rw [show rv_sk B n (f + 1) p = p from if_neg (by omega)]; exact fh
          · exfalso; omega
end
