/-! ===== what two proofs tell of one call may be told together, of methods that make no cells (laid by a program) ===== -/
def an_nz (ok : Nat → Bool) (x : mj_E) : Bool := match x.1 with
  | .new _ => false
  | .newarray _ => false
  | .anewarray _ => false
  | .multianewarray _ _ => false
  | .invokevirtual _ => ok (mj_hd x.2.2.1)
  | .invokestatic _ => match x.2.2.1 with
    | [_, _] => true
    | _ => ok (mj_hd x.2.2.1)
  | .invokespecial _ => match x.2.2.1 with
    | [] => true
    | y :: _ => ok y
  | _ => true
def an_C (ok : Nat → Bool) (C : mj_C) : Prop := ∀ y av G M (R R' : mj_P), ok y = true → C y av G M R → C y av G M R' → C y av G M (fun r G M => R r G M ∧ R' r G M)
theorem an_pop : ∀ (n : Nat) (acc st : List mj_V) {k k' k2 : List mj_V → List mj_V → Prop}, (∀ a t, k a t → k' a t → k2 a t) → mj_pop n acc st k → mj_pop n acc st k' → mj_pop n acc st k2
  | 0, acc, st, _, _, _, hk, h, h' => hk acc st h h'
  | n + 1, acc, [], _, _, _, _, h, _ => h
  | n + 1, acc, v :: st, _, _, _, hk, h, h' => an_pop n (v :: acc) st hk h h'
theorem an_sw {z : Int} {k k' k2 : Nat → Prop} (hk : ∀ t, k t → k' t → k2 t) : ∀ (ts : List Nat) (v : Int), mj_sw z k v ts → mj_sw z k' v ts → mj_sw z k2 v ts
  | [], _, _, _ => trivial
  | t :: ts, v, h, h' => ⟨fun q => hk t (h.1 q) (h'.1 q), an_sw hk ts (v + 1) h.2 h'.2⟩
theorem an_ldi {L : mj_L} {i : Nat} {k k' k2 : mj_V → Prop} (hk : ∀ z, k (.inl z) → k' (.inl z) → k2 (.inl z)) (h : mj_ldi L i k) (h' : mj_ldi L i k') : mj_ldi L i k2 := by
  unfold mj_ldi at *
  split at h
  · rename_i z e; rw [e] at h'; exact hk _ h h'
  · exact h.elim
theorem an_ldl {L : mj_L} {i : Nat} {k k' k2 : mj_V → Prop} (hk : ∀ z, k (.inr (.inl z)) → k' (.inr (.inl z)) → k2 (.inr (.inl z))) (h : mj_ldl L i k) (h' : mj_ldl L i k') : mj_ldl L i k2 := by
  unfold mj_ldl at *
  split at h
  · rename_i z e; rw [e] at h'; exact hk _ h h'
  · exact h.elim
theorem an_lda {L : mj_L} {i : Nat} {k k' k2 : mj_V → Prop} (hk : ∀ z, k (.inr (.inr z)) → k' (.inr (.inr z)) → k2 (.inr (.inr z))) (h : mj_lda L i k) (h' : mj_lda L i k') : mj_lda L i k2 := by
  unfold mj_lda at *
  split at h
  · rename_i z e; rw [e] at h'; exact hk _ h h'
  · exact h.elim
theorem an_i1 {st : List mj_V} {k k' k2 : Int → List mj_V → Prop} (hk : ∀ a t, k a t → k' a t → k2 a t) (h : mj_i1 st k) (h' : mj_i1 st k') : mj_i1 st k2 := by
  obtain ⟨a, t, rfl, h⟩ := mj_i1_e h
  exact hk a t h h'
theorem an_l1 {st : List mj_V} {k k' k2 : Int64 → List mj_V → Prop} (hk : ∀ a t, k a t → k' a t → k2 a t) (h : mj_l1 st k) (h' : mj_l1 st k') : mj_l1 st k2 := by
  obtain ⟨a, t, rfl, h⟩ := mj_l1_e h
  exact hk a t h h'
theorem an_r1 {st : List mj_V} {k k' k2 : Option Nat → List mj_V → Prop} (hk : ∀ a t, k a t → k' a t → k2 a t) (h : mj_r1 st k) (h' : mj_r1 st k') : mj_r1 st k2 := by
  obtain ⟨a, t, rfl, h⟩ := mj_r1_e h
  exact hk a t h h'
theorem an_a1 {st : List mj_V} {k k' k2 : Nat → List mj_V → Prop} (hk : ∀ a t, k a t → k' a t → k2 a t) (h : mj_a1 st k) (h' : mj_a1 st k') : mj_a1 st k2 := by
  obtain ⟨a, t, rfl, h⟩ := mj_a1_e h
  exact hk a t h h'
theorem an_c1 {st : List mj_V} {k k' k2 : mj_V → List mj_V → Prop} (hk : ∀ a t, k a t → k' a t → k2 a t) (h : mj_c1 st k) (h' : mj_c1 st k') : mj_c1 st k2 := by
  unfold mj_c1 at *
  split at h
  · exact hk _ _ h h'
  · exact hk _ _ h h'
  · exact h.elim
theorem an_is {G : mj_G} {a s : Nat} {k k' k2 : Nat → Nat → Prop} (hk : ∀ t n, k t n → k' t n → k2 t n) (h : mj_is G a s k) (h' : mj_is G a s k') : mj_is G a s k2 := by
  obtain ⟨t, n, h1, h2, h3⟩ := h
  obtain ⟨t', n', h1', h2', h3'⟩ := h'
  obtain ⟨rfl, rfl⟩ := Prod.mk.inj (h1.symm.trans h1')
  exact ⟨t, n, h1, h2, hk _ _ h3 h3'⟩
theorem an_iw {G : mj_G} {a s : Nat} {k k' k2 : Nat → Nat → Prop} (hk : ∀ t n, k t n → k' t n → k2 t n) (h : mj_iw G a s k) (h' : mj_iw G a s k') : mj_iw G a s k2 := by
  obtain ⟨t, n, h1, h2, h9, h3⟩ := h
  obtain ⟨t', n', h1', h2', -, h3'⟩ := h'
  obtain ⟨rfl, rfl⟩ := Prod.mk.inj (h1.symm.trans h1')
  exact ⟨t, n, h1, h2, h9, hk _ _ h3 h3'⟩
theorem an_ald {j : Nat} {st : List mj_V} {G : mj_G} {k k' k2 : Nat → Nat → List mj_V → Prop} (hk : ∀ a i t, k a i t → k' a i t → k2 a i t) (h : mj_ald j st G k) (h' : mj_ald j st G k') : mj_ald j st G k2 := an_i1 (fun _ _ h h' => an_a1 (fun _ _ h h' => an_is (fun _ _ h h' => ⟨h.1, h.2.1, hk _ _ _ h.2.2 h'.2.2⟩) h h') h h') h h'
theorem an_aldw {j : Nat} {st : List mj_V} {G : mj_G} {k k' k2 : Nat → Nat → List mj_V → Prop} (hk : ∀ a i t, k a i t → k' a i t → k2 a i t) (h : mj_aldw j st G k) (h' : mj_aldw j st G k') : mj_aldw j st G k2 := an_i1 (fun _ _ h h' => an_a1 (fun _ _ h h' => an_iw (fun _ _ h h' => ⟨h.1, h.2.1, hk _ _ _ h.2.2 h'.2.2⟩) h h') h h') h h'
theorem an_ald2 {st : List mj_V} {G : mj_G} {k k' : Nat → Nat → List mj_V → Prop} (h : mj_ald 1 st G k) (h' : mj_ald 2 st G k') : False := by
  obtain ⟨i, t, rfl, h⟩ := mj_i1_e h
  obtain ⟨a, t, rfl, tt, n, h1, h2, -⟩ := mj_a1_e h
  obtain ⟨t', n', h1', h2', -⟩ := h'
  rw [h1] at h1'
  have := (Prod.mk.inj h1').1
  omega
theorem an_aldw2 {st : List mj_V} {G : mj_G} {k k' : Nat → Nat → List mj_V → Prop} (h : mj_aldw 1 st G k) (h' : mj_aldw 2 st G k') : False := by
  obtain ⟨i, t, rfl, h⟩ := mj_i1_e h
  obtain ⟨a, t, rfl, tt, n, h1, h2, -⟩ := mj_a1_e h
  obtain ⟨t', n', h1', h2', -⟩ := h'
  rw [h1] at h1'
  have := (Prod.mk.inj h1').1
  omega
theorem an_bin {f : Int → Int → Int} {g : Int32 → Int32 → Int32} {st : List mj_V} {k k' k2 : List mj_V → Prop} (hf : ∀ x y, Int32.ofInt (f x y) = g (Int32.ofInt x) (Int32.ofInt y)) (hk : ∀ t, k t → k' t → k2 t) (h : mj_bin f st g k) (h' : mj_bin f st g k') : mj_bin f st g k2 := by
  refine an_i1 (fun y t h h' => an_i1 (fun x t h h' => ?_) h h') h h'
  have e : mj_in (f x y) → f x y = (g (Int32.ofInt x) (Int32.ofInt y)).toInt := fun q => by rw [← hf, mj_ti q]
  rcases h with ⟨a1, a2⟩ | a2 <;> rcases h' with ⟨b1, b2⟩ | b2
  · exact Or.inl ⟨a1, hk _ a2 b2⟩
  · exact Or.inl ⟨a1, hk _ a2 (b2 _ a1 (e a1))⟩
  · exact Or.inl ⟨b1, hk _ (a2 _ b1 (e b1)) b2⟩
  · exact Or.inr (fun z hz hz2 => hk _ (a2 z hz hz2) (b2 z hz hz2))
theorem an_cpy {j : Nat} {st : List mj_V} {G : mj_G} {k k' k2 : Nat → Nat → Nat → Nat → Nat → List mj_V → Prop} (hk : ∀ a b c d e t, k a b c d e t → k' a b c d e t → k2 a b c d e t) (h : mj_cpy j st G k) (h' : mj_cpy j st G k') : mj_cpy j st G k2 :=
  an_i1 (fun _ _ h h' => an_i1 (fun _ _ h h' => an_a1 (fun _ _ h h' => an_i1 (fun _ _ h h' => an_a1 (fun _ _ h h' => an_is (fun _ _ h h' => an_iw (fun _ _ h h' => ⟨h.1, h.2.1, h.2.2.1, h.2.2.2.1, h.2.2.2.2.1, h.2.2.2.2.2.1, hk _ _ _ _ _ _ h.2.2.2.2.2.2 h'.2.2.2.2.2.2⟩) h h') h h') h h') h h') h h') h h') h h'
theorem an_lib {f : Nat} {st : List mj_V} {G : mj_G} {M : mj_M} {k k' k2 : List mj_V → mj_M → Prop} (hk : ∀ t M, k t M → k' t M → k2 t M) (h : mj_lib f st G M k) (h' : mj_lib f st G M k') : mj_lib f st G M k2 := by
  match f, h, h' with
  | 0, h, h' => exact an_i1 (fun _ _ h h' => an_i1 (fun _ _ h h' => ⟨h.1, fun z a b => hk _ _ (h.2 z a b) (h'.2 z a b)⟩) h h') h h'
  | 1, h, h' => exact an_i1 (fun _ _ h h' => an_i1 (fun _ _ h h' => ⟨h.1, fun z a b => hk _ _ (h.2 z a b) (h'.2 z a b)⟩) h h') h h'
  | 2, h, h' => exact an_i1 (fun _ _ h h' => ⟨h.1, fun z a b c => hk _ _ (h.2 z a b c) (h'.2 z a b c)⟩) h h'
  | 3, h, h' => exact an_cpy (k := fun a b sp dp n st => k st (mj_cp0 M a b sp dp n)) (k' := fun a b sp dp n st => k' st (mj_cp0 M a b sp dp n)) (k2 := fun a b sp dp n st => k2 st (mj_cp0 M a b sp dp n)) (fun _ _ _ _ _ _ h h' => hk _ _ h h') h h'
  | 4, h, h' => exact an_cpy (k := fun a b sp dp n st => k st (mj_cp1 M a b sp dp n)) (k' := fun a b sp dp n st => k' st (mj_cp1 M a b sp dp n)) (k2 := fun a b sp dp n st => k2 st (mj_cp1 M a b sp dp n)) (fun _ _ _ _ _ _ h h' => hk _ _ h h') h h'
  | n + 5, h, _ => exact h.elim
theorem an_rf {r : Option Nat} {k k' k2 : mj_V → Prop} (hk : ∀ v, k v → k' v → k2 v) (h : mj_rf r k) (h' : mj_rf r k') : mj_rf r k2 := ⟨fun b hb => hk _ (h.1 b hb) (h'.1 b hb), fun hb => hk _ (h.2 hb) (h'.2 hb)⟩
theorem an_br {c a a' a2 b b' b2 : Prop} (ha : a → a' → a2) (hb : b → b' → b2) (h : mj_br c a b) (h' : mj_br c a' b') : mj_br c a2 b2 := ⟨fun q => ha (h.1 q) (h'.1 q), fun q => hb (h.2 q) (h'.2 q)⟩
theorem an_get {ci fk : Nat} {st : List mj_V} {G : mj_G} {M : mj_M} {k k' k2 : List mj_V → Prop} (hk : ∀ t, k t → k' t → k2 t) (h : mj_get ci fk st G M k) (h' : mj_get ci fk st G M k') : mj_get ci fk st G M k2 := by
  unfold mj_get at *
  generalize mj_so ci fk = so at *
  refine an_a1 (fun _ _ h h' => an_is (fun _ _ h h' => ?_) h h') h h'
  match so, h, h' with
  | 0, h, h' => exact hk _ h h'
  | 1, h, h' => exact hk _ h h'
  | n + 2, h, h' => exact an_rf (fun _ h h' => hk _ h h') h h'
theorem an_gw {fk : Nat} {st : List mj_V} {G : mj_G} {k k' k2 : List mj_V → Prop} (hk : ∀ t, k t → k' t → k2 t) (h : mj_gw fk st G k) (h' : mj_gw fk st G k') : mj_gw fk st G k2 := by
  unfold mj_gw at *
  obtain ⟨a, t, rfl, tt, nn, g1, g2, h⟩ := mj_a1_e h
  obtain ⟨t', n', g1', g2', h'⟩ := h'
  obtain ⟨rfl, rfl⟩ := Prod.mk.inj (g1.symm.trans g1')
  refine ⟨tt, nn, g1, g2, ?_⟩
  match fk, h, h' with
  | 0, h, h' => exact hk _ h h'
  | n + 1, h, h' => exact hk _ h h'
theorem an_put {ci fk : Nat} {st : List mj_V} {G : mj_G} {M : mj_M} {k k' k2 : List mj_V → mj_M → Prop} (hk : ∀ t M, k t M → k' t M → k2 t M) (h : mj_put ci fk st G M k) (h' : mj_put ci fk st G M k') : mj_put ci fk st G M k2 := by
  unfold mj_put at *
  generalize mj_so ci fk = so at *
  match so, h, h' with
  | 0, h, h' => exact an_i1 (fun _ _ h h' => an_a1 (fun _ _ h h' => an_iw (fun _ _ h h' => ⟨h.1, hk _ _ h.2 h'.2⟩) h h') h h') h h'
  | 1, h, h' => exact an_l1 (fun _ _ h h' => an_a1 (fun _ _ h h' => an_iw (fun _ _ h h' => hk _ _ h h') h h') h h') h h'
  | n + 2, h, h' => exact an_r1 (fun _ _ h h' => an_a1 (fun _ _ h h' => an_iw (fun _ _ h h' => hk _ _ h h') h h') h h') h h'
set_option maxHeartbeats 4000000 in
theorem an_x {ok : Nat → Bool} {mcs : Nat → Nat × Nat} {C : mj_C} {full : List mj_E} {Q Q' : mj_P} {K K' : mj_S} (hM : mj_mo C) (hC : an_C ok C) (hf : ∀ x ∈ full, an_nz ok x = true) (rest : List mj_E) (hr : ∀ x ∈ rest, an_nz ok x = true) (L : mj_L) (st : List mj_V) (G : mj_G) (M : mj_M) (cb sb : Nat)
    (h : mj_x mcs C full Q K 1 rest L st G M cb sb) (h' : mj_x mcs C full Q' K' 1 rest L st G M cb sb) : mj_x mcs C full (fun r G M => Q r G M ∧ Q' r G M) (fun rest L st G M cb sb => (∀ x ∈ rest, an_nz ok x = true) ∧ K rest L st G M cb sb ∧ K' rest L st G M cb sb) 1 rest L st G M cb sb := by
  cases rest with
  | nil => exact h
  | cons x rest =>
    obtain ⟨ins, pc, aux, imm⟩ := x
    have ht : ∀ x ∈ rest, an_nz ok x = true := fun x hx => hr x (List.mem_cons_of_mem _ hx)
    have hd : ∀ t, ∀ x ∈ full.drop t, an_nz ok x = true := fun t x hx => hf x (List.mem_of_mem_drop hx)
    have h0 := hr _ List.mem_cons_self
    cases ins
    case iload_n k =>
      exact an_ldi (k := fun v => K rest L (v :: st) G M cb sb) (k' := fun v => K' rest L (v :: st) G M cb sb) (k2 := fun v => (∀ x ∈ rest, an_nz ok x = true) ∧ K rest L (v :: st) G M cb sb ∧ K' rest L (v :: st) G M cb sb) (i := k.val) (fun _ h h' => ⟨ht, h, h'⟩) h h'
    case iload k =>
      exact an_ldi (k := fun v => K rest L (v :: st) G M cb sb) (k' := fun v => K' rest L (v :: st) G M cb sb) (k2 := fun v => (∀ x ∈ rest, an_nz ok x = true) ∧ K rest L (v :: st) G M cb sb ∧ K' rest L (v :: st) G M cb sb) (i := k) (fun _ h h' => ⟨ht, h, h'⟩) h h'
    case lload_n k =>
      exact an_ldl (k := fun v => K rest L (v :: st) G M cb sb) (k' := fun v => K' rest L (v :: st) G M cb sb) (k2 := fun v => (∀ x ∈ rest, an_nz ok x = true) ∧ K rest L (v :: st) G M cb sb ∧ K' rest L (v :: st) G M cb sb) (i := k.val) (fun _ h h' => ⟨ht, h, h'⟩) h h'
    case lload k =>
      exact an_ldl (k := fun v => K rest L (v :: st) G M cb sb) (k' := fun v => K' rest L (v :: st) G M cb sb) (k2 := fun v => (∀ x ∈ rest, an_nz ok x = true) ∧ K rest L (v :: st) G M cb sb ∧ K' rest L (v :: st) G M cb sb) (i := k) (fun _ h h' => ⟨ht, h, h'⟩) h h'
    case aload_n k =>
      exact an_lda (k := fun v => K rest L (v :: st) G M cb sb) (k' := fun v => K' rest L (v :: st) G M cb sb) (k2 := fun v => (∀ x ∈ rest, an_nz ok x = true) ∧ K rest L (v :: st) G M cb sb ∧ K' rest L (v :: st) G M cb sb) (i := k.val) (fun _ h h' => ⟨ht, h, h'⟩) h h'
    case aload k =>
      exact an_lda (k := fun v => K rest L (v :: st) G M cb sb) (k' := fun v => K' rest L (v :: st) G M cb sb) (k2 := fun v => (∀ x ∈ rest, an_nz ok x = true) ∧ K rest L (v :: st) G M cb sb ∧ K' rest L (v :: st) G M cb sb) (i := k) (fun _ h h' => ⟨ht, h, h'⟩) h h'
    case istore_n k =>
      exact an_i1 (fun _ _ h h' => ⟨ht, h, h'⟩) h h'
    case istore k =>
      exact an_i1 (fun _ _ h h' => ⟨ht, h, h'⟩) h h'
    case lstore_n k =>
      exact an_l1 (fun _ _ h h' => ⟨ht, h, h'⟩) h h'
    case lstore k =>
      exact an_l1 (fun _ _ h h' => ⟨ht, h, h'⟩) h h'
    case astore_n k =>
      exact an_r1 (fun _ _ h h' => ⟨ht, h, h'⟩) h h'
    case astore k =>
      exact an_r1 (fun _ _ h h' => ⟨ht, h, h'⟩) h h'
    case iinc k c =>
      refine an_ldi (L := L) (i := k) (k := fun v => mj_i1 [v] fun z _ => (mj_in (z + c) ∧ K rest (mj_s1 L k (.inl (z + c))) st G M cb sb) ∨ ∀ q, mj_in q → q = (Int32.ofInt z + Int32.ofInt c).toInt → K rest (mj_s1 L k (.inl q)) st G M cb sb) (k' := fun v => mj_i1 [v] fun z _ => (mj_in (z + c) ∧ K' rest (mj_s1 L k (.inl (z + c))) st G M cb sb) ∨ ∀ q, mj_in q → q = (Int32.ofInt z + Int32.ofInt c).toInt → K' rest (mj_s1 L k (.inl q)) st G M cb sb) (k2 := fun v => mj_i1 [v] fun z _ => (mj_in (z + c) ∧ (∀ x ∈ rest, an_nz ok x = true) ∧ K rest (mj_s1 L k (.inl (z + c))) st G M cb sb ∧ K' rest (mj_s1 L k (.inl (z + c))) st G M cb sb) ∨ ∀ q, mj_in q → q = (Int32.ofInt z + Int32.ofInt c).toInt → (∀ x ∈ rest, an_nz ok x = true) ∧ K rest (mj_s1 L k (.inl q)) st G M cb sb ∧ K' rest (mj_s1 L k (.inl q)) st G M cb sb) (fun x a b => ?_) h h'
      have e : mj_in (x + c) → x + c = (Int32.ofInt x + Int32.ofInt c).toInt := fun q => by rw [← Int32.ofInt_add, mj_ti q]
      have a : (mj_in (x + c) ∧ K rest (mj_s1 L k (.inl (x + c))) st G M cb sb) ∨ ∀ q, mj_in q → q = (Int32.ofInt x + Int32.ofInt c).toInt → K rest (mj_s1 L k (.inl q)) st G M cb sb := a
      have b : (mj_in (x + c) ∧ K' rest (mj_s1 L k (.inl (x + c))) st G M cb sb) ∨ ∀ q, mj_in q → q = (Int32.ofInt x + Int32.ofInt c).toInt → K' rest (mj_s1 L k (.inl q)) st G M cb sb := b
      rcases a with ⟨a1, a2⟩ | a2 <;> rcases b with ⟨b1, b2⟩ | b2
      · exact Or.inl ⟨a1, ht, a2, b2⟩
      · exact Or.inl ⟨a1, ht, a2, b2 _ a1 (e a1)⟩
      · exact Or.inl ⟨b1, ht, a2 _ b1 (e b1), b2⟩
      · exact Or.inr (fun z hz hz2 => ⟨ht, a2 z hz hz2, b2 z hz hz2⟩)
    case iconst z =>
      exact ⟨ht, h, h'⟩
    case bipush z =>
      exact ⟨ht, h, h'⟩
    case sipush z =>
      exact ⟨ht, h, h'⟩
    case ldc z =>
      exact ⟨ht, h, h'⟩
    case ldc2_w z =>
      exact ⟨ht, h, h'⟩
    case lconst z =>
      exact ⟨ht, h, h'⟩
    case aconst_null =>
      exact ⟨ht, h, h'⟩
    case ldc_w z =>
      exact ⟨ht, h, h'⟩
    case goto z =>
      exact ⟨hd _, h, h'⟩
    case iadd =>
      exact an_bin (f := fun x y => x + y) (g := fun x y => x + y) (k := fun st => K rest L st G M cb sb) (k' := fun st => K' rest L st G M cb sb) (k2 := fun st => (∀ x ∈ rest, an_nz ok x = true) ∧ K rest L st G M cb sb ∧ K' rest L st G M cb sb) (fun x y => Int32.ofInt_add x y) (fun _ h h' => ⟨ht, h, h'⟩) h h'
    case isub =>
      exact an_bin (f := fun x y => x - y) (g := fun x y => x - y) (k := fun st => K rest L st G M cb sb) (k' := fun st => K' rest L st G M cb sb) (k2 := fun st => (∀ x ∈ rest, an_nz ok x = true) ∧ K rest L st G M cb sb ∧ K' rest L st G M cb sb) (fun x y => Int32.ofInt_sub x y) (fun _ h h' => ⟨ht, h, h'⟩) h h'
    case imul =>
      exact an_bin (f := fun x y => x * y) (g := fun x y => x * y) (k := fun st => K rest L st G M cb sb) (k' := fun st => K' rest L st G M cb sb) (k2 := fun st => (∀ x ∈ rest, an_nz ok x = true) ∧ K rest L st G M cb sb ∧ K' rest L st G M cb sb) (fun x y => Int32.ofInt_mul x y) (fun _ h h' => ⟨ht, h, h'⟩) h h'
    case iand =>
      exact an_i1 (fun _ _ h h' => an_i1 (fun _ _ h h' z a b => ⟨ht, h z a b, h' z a b⟩) h h') h h'
    case ior =>
      exact an_i1 (fun _ _ h h' => an_i1 (fun _ _ h h' z a b => ⟨ht, h z a b, h' z a b⟩) h h') h h'
    case ishl =>
      exact an_i1 (fun _ _ h h' => an_i1 (fun _ _ h h' z a b => ⟨ht, h z a b, h' z a b⟩) h h') h h'
    case ishr =>
      exact an_i1 (fun _ _ h h' => an_i1 (fun _ _ h h' z a b => ⟨ht, h z a b, h' z a b⟩) h h') h h'
    case iushr =>
      exact an_i1 (fun _ _ h h' => an_i1 (fun _ _ h h' z a b => ⟨ht, h z a b, h' z a b⟩) h h') h h'
    case ineg =>
      exact an_i1 (fun _ _ h h' z a b => ⟨ht, h z a b, h' z a b⟩) h h'
    case i2b =>
      exact an_i1 (fun _ _ h h' z a b => ⟨ht, h z a b, h' z a b⟩) h h'
    case dup =>
      exact an_c1 (k := fun v st => K rest L (v :: v :: st) G M cb sb) (k' := fun v st => K' rest L (v :: v :: st) G M cb sb) (k2 := fun v st => (∀ x ∈ rest, an_nz ok x = true) ∧ K rest L (v :: v :: st) G M cb sb ∧ K' rest L (v :: v :: st) G M cb sb) (fun _ _ h h' => ⟨ht, h, h'⟩) h h'
    case pop =>
      exact an_c1 (k := fun _ st => K rest L st G M cb sb) (k' := fun _ st => K' rest L st G M cb sb) (k2 := fun _ st => (∀ x ∈ rest, an_nz ok x = true) ∧ K rest L st G M cb sb ∧ K' rest L st G M cb sb) (fun _ _ h h' => ⟨ht, h, h'⟩) h h'
    case dup2 =>
      exact an_c1 (k := fun v st => mj_c1 st fun w st => K rest L (v :: w :: v :: w :: st) G M cb sb) (k' := fun v st => mj_c1 st fun w st => K' rest L (v :: w :: v :: w :: st) G M cb sb) (k2 := fun v st => mj_c1 st fun w st => (∀ x ∈ rest, an_nz ok x = true) ∧ K rest L (v :: w :: v :: w :: st) G M cb sb ∧ K' rest L (v :: w :: v :: w :: st) G M cb sb) (fun _ _ h h' => an_c1 (fun _ _ h h' => ⟨ht, h, h'⟩) h h') h h'
    case ifCond c o =>
      exact an_i1 (fun _ _ h h' => an_br (fun h h' => ⟨hd _, h, h'⟩) (fun h h' => ⟨ht, h, h'⟩) h h') h h'
    case if_icmp c o =>
      exact an_i1 (fun _ _ h h' => an_i1 (fun _ _ h h' => an_br (fun h h' => ⟨hd _, h, h'⟩) (fun h h' => ⟨ht, h, h'⟩) h h') h h') h h'
    case if_acmp c o =>
      exact an_r1 (fun _ _ h h' => an_r1 (fun _ _ h h' => an_br (fun h h' => ⟨hd _, h, h'⟩) (fun h h' => ⟨ht, h, h'⟩) h h') h h') h h'
    case ifnull o =>
      exact an_r1 (fun _ _ h h' => an_br (fun h h' => ⟨hd _, h, h'⟩) (fun h h' => ⟨ht, h, h'⟩) h h') h h'
    case ifnonnull o =>
      exact an_r1 (fun _ _ h h' => an_br (fun h h' => ⟨hd _, h, h'⟩) (fun h h' => ⟨ht, h, h'⟩) h h') h h'
    case tableswitch df lo hi offs =>
      exact an_i1 (fun _ _ h h' => ⟨fun q => ⟨hd _, h.1 q, h'.1 q⟩, an_sw (fun t h h' => ⟨hd t, h, h'⟩) _ _ h.2 h'.2⟩) h h'
    case getfield k =>
      exact ⟨h.1, an_br (fun h h' => an_gw (fun _ h h' => ⟨ht, h, h'⟩) h h') (fun h h' => an_get (fun _ h h' => ⟨ht, h, h'⟩) h h') h.2 h'.2⟩
    case putfield k =>
      exact ⟨h.1, an_put (k := fun st M => K rest L st G M cb sb) (k' := fun st M => K' rest L st G M cb sb) (k2 := fun st M => (∀ x ∈ rest, an_nz ok x = true) ∧ K rest L st G M cb sb ∧ K' rest L st G M cb sb) (fun _ _ h h' => ⟨ht, h, h'⟩) h.2 h'.2⟩
    case iaload =>
      exact an_ald (k := fun a i st => K rest L (.inl (M.1 a i) :: st) G M cb sb) (k' := fun a i st => K' rest L (.inl (M.1 a i) :: st) G M cb sb) (k2 := fun a i st => (∀ x ∈ rest, an_nz ok x = true) ∧ K rest L (.inl (M.1 a i) :: st) G M cb sb ∧ K' rest L (.inl (M.1 a i) :: st) G M cb sb) (fun _ _ _ h h' => ⟨ht, h, h'⟩) h h'
    case laload =>
      exact an_ald (k := fun a i st => K rest L (.inr (.inl (M.2.1 a i)) :: st) G M cb sb) (k' := fun a i st => K' rest L (.inr (.inl (M.2.1 a i)) :: st) G M cb sb) (k2 := fun a i st => (∀ x ∈ rest, an_nz ok x = true) ∧ K rest L (.inr (.inl (M.2.1 a i)) :: st) G M cb sb ∧ K' rest L (.inr (.inl (M.2.1 a i)) :: st) G M cb sb) (fun _ _ _ h h' => ⟨ht, h, h'⟩) h h'
    case baload =>
      rcases (show mj_bald st G (fun a i st => K rest L (.inl (M.1 a i) :: st) G M cb sb) from h) with h | h <;> rcases (show mj_bald st G (fun a i st => K' rest L (.inl (M.1 a i) :: st) G M cb sb) from h') with h' | h'
      · exact Or.inl (an_ald (k := fun a i st => K rest L (.inl (M.1 a i) :: st) G M cb sb) (k' := fun a i st => K' rest L (.inl (M.1 a i) :: st) G M cb sb) (k2 := fun a i st => (∀ x ∈ rest, an_nz ok x = true) ∧ K rest L (.inl (M.1 a i) :: st) G M cb sb ∧ K' rest L (.inl (M.1 a i) :: st) G M cb sb) (fun _ _ _ h h' => ⟨ht, h, h'⟩) h h')
      · exact (an_ald2 h h').elim
      · exact (an_ald2 h' h).elim
      · exact Or.inr (an_ald (k := fun a i st => K rest L (.inl (M.1 a i) :: st) G M cb sb) (k' := fun a i st => K' rest L (.inl (M.1 a i) :: st) G M cb sb) (k2 := fun a i st => (∀ x ∈ rest, an_nz ok x = true) ∧ K rest L (.inl (M.1 a i) :: st) G M cb sb ∧ K' rest L (.inl (M.1 a i) :: st) G M cb sb) (fun _ _ _ h h' => ⟨ht, h, h'⟩) h h')
    case aaload =>
      exact an_ald (k := fun a i st => mj_rf (M.2.2 a i) fun v => K rest L (v :: st) G M cb sb) (k' := fun a i st => mj_rf (M.2.2 a i) fun v => K' rest L (v :: st) G M cb sb) (k2 := fun a i st => mj_rf (M.2.2 a i) fun v => (∀ x ∈ rest, an_nz ok x = true) ∧ K rest L (v :: st) G M cb sb ∧ K' rest L (v :: st) G M cb sb) (fun _ _ _ h h' => an_rf (fun _ h h' => ⟨ht, h, h'⟩) h h') h h'
    case iastore =>
      exact an_i1 (fun _ _ h h' => an_aldw (fun _ _ _ h h' => ⟨ht, h, h'⟩) h h') h h'
    case lastore =>
      exact an_l1 (fun _ _ h h' => an_aldw (fun _ _ _ h h' => ⟨ht, h, h'⟩) h h') h h'
    case bastore =>
      refine an_i1 (fun z t h h' => ?_) h h'
      rcases h with h | ⟨hz, h⟩ <;> rcases h' with h' | ⟨hz', h'⟩
      · exact Or.inl (an_aldw (fun _ _ _ h h' => ⟨ht, h, h'⟩) h h')
      · exact (an_aldw2 h h').elim
      · exact (an_aldw2 h' h).elim
      · exact Or.inr ⟨hz, an_aldw (fun _ _ _ h h' => ⟨ht, h, h'⟩) h h'⟩
    case aastore =>
      exact an_r1 (fun _ _ h h' => an_aldw (fun _ _ _ h h' => ⟨h.1, ht, h.2, h'.2⟩) h h') h h'
    case arraylength =>
      refine an_a1 (fun a t h h' => ?_) h h'
      obtain ⟨tt, k, j, h1, h2, h3, h4, u⟩ := h
      obtain ⟨tt', k', j', h1', h2', h3', h4', u'⟩ := h'
      obtain ⟨rfl, rfl⟩ := Prod.mk.inj (h1.symm.trans h1')
      exact ⟨tt, k, j, h1, h2, h3, h4, ht, u, u'⟩
    case newarray a =>
      cases h0
    case anewarray a =>
      cases h0
    case multianewarray a b =>
      cases h0
    case new k =>
      cases h0
    case invokevirtual k =>
      exact ⟨h.1, an_pop _ _ _ (fun As t h h' => an_a1 (fun a t h h' => an_is (fun _ _ h h' => ⟨h.1, h.2.1, h.2.2.1, hM _ _ _ _ _ _ (fun r G M q => ⟨ht, q.1, q.2⟩) (hC _ _ _ _ _ _ h0 h.2.2.2 h'.2.2.2)⟩) h h') h h') h.2 h'.2⟩
    case invokestatic k =>
      match aux, h, h', h0 with
      | [f, u], h, h', h0 => exact an_lib (k := fun st M => K rest L st G M cb sb) (k' := fun st M => K' rest L st G M cb sb) (k2 := fun st M => (∀ x ∈ rest, an_nz ok x = true) ∧ K rest L st G M cb sb ∧ K' rest L st G M cb sb) (fun _ _ h h' => ⟨ht, h, h'⟩) h h'
      | [], h, h', h0 => exact absurd rfl h.1
      | [a], h, h', h0 => exact ⟨h.1, an_pop _ _ _ (fun As t h h' => ⟨h.1, h.2.1, h.2.2.1, hM _ _ _ _ _ _ (fun r G M q => ⟨ht, q.1, q.2⟩) (hC _ _ _ _ _ _ h0 h.2.2.2 h'.2.2.2)⟩) h.2 h'.2⟩
      | a :: b :: c :: aux, h, h', h0 => exact ⟨h.1, an_pop _ _ _ (fun As t h h' => ⟨h.1, h.2.1, h.2.2.1, hM _ _ _ _ _ _ (fun r G M q => ⟨ht, q.1, q.2⟩) (hC _ _ _ _ _ _ h0 h.2.2.2 h'.2.2.2)⟩) h.2 h'.2⟩
    case invokespecial k =>
      match aux, h, h', h0 with
      | [], h, h', h0 => exact an_a1 (fun _ _ h h' => ⟨h.1, ht, h.2, h'.2⟩) h h'
      | y :: aux, h, h', h0 => exact an_pop _ _ _ (fun As t h h' => an_a1 (fun a t h h' => an_is (fun _ _ h h' => ⟨h.1, h.2.1, h.2.2.1, hM _ _ _ _ _ _ (fun r G M q => ⟨ht, q.1, q.2⟩) (hC _ _ _ _ _ _ h0 h.2.2.2 h'.2.2.2)⟩) h h') h h') h h'
    case ireturn =>
      exact an_i1 (fun _ _ h h' => ⟨h.1, h.2.1, h.2.2, h'.2.2⟩) h h'
    case return_ =>
      exact ⟨h.1, h.2, h'.2⟩
    case areturn =>
      exact an_r1 (fun _ _ h h' => ⟨h.1, h.2, h'.2⟩) h h'
    case idiv =>
      exact an_i1 (fun _ _ h h' => an_i1 (fun _ _ h h' => ⟨h.1, fun z a b => ⟨ht, h.2 z a b, h'.2 z a b⟩⟩) h h') h h'
    case irem =>
      exact an_i1 (fun _ _ h h' => an_i1 (fun _ _ h h' => ⟨h.1, fun z a b => ⟨ht, h.2 z a b, h'.2 z a b⟩⟩) h h') h h'
    case lor =>
      exact an_l1 (fun _ _ h h' => an_l1 (fun _ _ h h' => ⟨ht, h, h'⟩) h h') h h'
    case land =>
      exact an_l1 (fun _ _ h h' => an_l1 (fun _ _ h h' => ⟨ht, h, h'⟩) h h') h h'
    case lshl =>
      exact an_i1 (fun _ _ h h' => an_l1 (fun _ _ h h' => ⟨ht, h, h'⟩) h h') h h'
    case lshr =>
      exact an_i1 (fun _ _ h h' => an_l1 (fun _ _ h h' => ⟨ht, h, h'⟩) h h') h h'
    case lcmp =>
      exact an_l1 (fun _ _ h h' => an_l1 (fun _ _ h h' z a b => ⟨ht, h z a b, h' z a b⟩) h h') h h'
    case i2l =>
      exact an_i1 (fun _ _ h h' => ⟨ht, h, h'⟩) h h'
    case l2i =>
      exact an_l1 (fun _ _ h h' z a b => ⟨ht, h z a b, h' z a b⟩) h h'
    case getstatic k =>
      exact ⟨h.1, fun a q => ⟨ht, h.2 a q, h'.2 a q⟩⟩
    all_goals exact h
theorem an_W {ok : Nat → Bool} {mcs : Nat → Nat × Nat} {C : mj_C} {full : List mj_E} {Q Q' : mj_P} (hM : mj_mo C) (hC : an_C ok C) (hf : ∀ x ∈ full, an_nz ok x = true) {rest : List mj_E} {L : mj_L} {st : List mj_V} {G : mj_G} {M : mj_M} {cb sb : Nat} (hr : ∀ x ∈ rest, an_nz ok x = true) (h : mj_W mcs C full Q rest L st G M cb sb) (h' : mj_W mcs C full Q' rest L st G M cb sb) : mj_W mcs C full (fun r G M => Q r G M ∧ Q' r G M) rest L st G M cb sb := by
  refine h (fun rest L st G M cb sb => (∀ x ∈ rest, an_nz ok x = true) → mj_W mcs C full Q' rest L st G M cb sb → mj_W mcs C full (fun r G M => Q r G M ∧ Q' r G M) rest L st G M cb sb) (fun rest L st G M cb sb h hr h' => ?_) hr h'
  exact mj_W.step hM (mj_x_m hM (fun _ _ _ q => q) (fun _ _ _ _ _ _ _ q => q.2.1 q.1 q.2.2) 1 _ _ _ _ _ _ _ (an_x hM hC hf _ hr _ _ _ _ _ _ h (mj_W.out hM h')))
/-- methods that make nothing, and call none that does, n deep -/
def an_ok (T : Nat → mj_T) : Nat → Nat → Bool
  | 0, _ => false
  | n + 1, y => (T y).2.2.2.2.1.all (an_nz (an_ok T n))
theorem an_R (T : Nat → mj_T) : ∀ d, an_C (fun y => an_ok T d y) (mj_R T d)
  | 0 => fun _ _ _ _ _ _ h _ _ => by cases h
  | d + 1 => fun y av G M R R' h h1 h2 => ⟨h1.1, an_W (ok := an_ok T d) (mj_R_mo T d) (an_R T d) (fun x hx => List.all_eq_true.mp h x hx) (fun x hx => List.all_eq_true.mp h x hx) h1.2 h2.2⟩
