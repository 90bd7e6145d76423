/-! ===== what the small machine does, the machine does ===== -/
theorem mj_ldi_e {L : mj_L} {i : Nat} {k : mj_V → Prop} (h : mj_ldi L i k) : ∃ z, mj_nt L i = some (.inl z) ∧ k (.inl z) := by
  unfold mj_ldi at h
  split at h
  · rename_i z hz; exact ⟨z, hz, h⟩
  · exact h.elim
theorem mj_ldl_e {L : mj_L} {i : Nat} {k : mj_V → Prop} (h : mj_ldl L i k) : ∃ z, mj_nt L i = some (.inr (.inl z)) ∧ k (.inr (.inl z)) := by
  unfold mj_ldl at h
  split at h
  · rename_i z hz; exact ⟨z, hz, h⟩
  · exact h.elim
theorem mj_lda_e {L : mj_L} {i : Nat} {k : mj_V → Prop} (h : mj_lda L i k) : ∃ z, mj_nt L i = some (.inr (.inr z)) ∧ k (.inr (.inr z)) := by
  unfold mj_lda at h
  split at h
  · rename_i z hz; exact ⟨z, hz, h⟩
  · exact h.elim
theorem mj_i1_e {st : List mj_V} {k : Int → List mj_V → Prop} (h : mj_i1 st k) : ∃ z t, st = .inl z :: t ∧ k z t := by
  unfold mj_i1 at h
  split at h
  · exact ⟨_, _, rfl, h⟩
  · exact h.elim
theorem mj_l1_e {st : List mj_V} {k : Int64 → List mj_V → Prop} (h : mj_l1 st k) : ∃ z t, st = .inr (.inl z) :: t ∧ k z t := by
  unfold mj_l1 at h
  split at h
  · exact ⟨_, _, rfl, h⟩
  · exact h.elim
theorem mj_r1_e {st : List mj_V} {k : Option Nat → List mj_V → Prop} (h : mj_r1 st k) : ∃ z t, st = .inr (.inr z) :: t ∧ k z t := by
  unfold mj_r1 at h
  split at h
  · exact ⟨_, _, rfl, h⟩
  · exact h.elim
theorem mj_a1_e {st : List mj_V} {k : Nat → List mj_V → Prop} (h : mj_a1 st k) : ∃ z t, st = .inr (.inr (some z)) :: t ∧ k z t := by
  unfold mj_a1 at h
  split at h
  · exact ⟨_, _, rfl, h⟩
  · exact h.elim
theorem mj_c1_e {st : List mj_V} {k : mj_V → List mj_V → Prop} (h : mj_c1 st k) : ∃ v t, st = v :: t ∧ (∀ w, v ≠ .inr (.inl w)) ∧ k v t := by
  unfold mj_c1 at h
  split at h
  · exact ⟨_, _, rfl, (fun w q => by cases q), h⟩
  · exact ⟨_, _, rfl, (fun w q => by cases q), h⟩
  · exact h.elim
theorem mj_pop_e : ∀ (n : Nat) (acc st : List mj_V) (k : List mj_V → List mj_V → Prop), mj_pop n acc st k → ∃ As st', st = As.reverse ++ st' ∧ As.length = n ∧ k (As ++ acc) st'
  | 0, acc, st, k, h => ⟨[], st, rfl, rfl, h⟩
  | n + 1, acc, [], k, h => h.elim
  | n + 1, acc, v :: st, k, h => by
    obtain ⟨As, st', h1, h2, h3⟩ := mj_pop_e n (v :: acc) st k h
    refine ⟨As ++ [v], st', ?_, by simp [h2], ?_⟩
    · simp [h1]
    · rw [List.append_assoc]; exact h3
theorem mj_ald_e {j : Nat} {st : List mj_V} {G : mj_G} {k : Nat → Nat → List mj_V → Prop} (h : mj_ald j st G k) : ∃ i a st' t n, st = .inl i :: .inr (.inr (some a)) :: st' ∧ G a = (t, n) ∧ t % 1000 = 100 + j ∧ 0 ≤ i ∧ i < (n : Int) ∧ k a i.toNat st' := by
  obtain ⟨i, st1, rfl, h⟩ := mj_i1_e h
  obtain ⟨a, st2, rfl, h⟩ := mj_a1_e h
  obtain ⟨t, n, h1, h2, h3, h4, h5⟩ := h
  exact ⟨i, a, st2, t, n, rfl, h1, h2, h3, h4, h5⟩
theorem mj_aldw_e {j : Nat} {st : List mj_V} {G : mj_G} {k : Nat → Nat → List mj_V → Prop} (h : mj_aldw j st G k) : ∃ i a st' t n, st = .inl i :: .inr (.inr (some a)) :: st' ∧ G a = (t, n) ∧ t % 1000 = 100 + j ∧ t < 900000 ∧ 0 ≤ i ∧ i < (n : Int) ∧ k a i.toNat st' := by
  obtain ⟨i, st1, rfl, h⟩ := mj_i1_e h
  obtain ⟨a, st2, rfl, h⟩ := mj_a1_e h
  obtain ⟨t, n, h1, h2, h9, h3, h4, h5⟩ := h
  exact ⟨i, a, st2, t, n, rfl, h1, h2, h9, h3, h4, h5⟩
theorem mj_em {α : Type} {l : List α} (h : l ≠ []) {b : Bool} (hb : (l.isEmpty || b) = true) : b = true := by
  cases l with
  | nil => exact absurd rfl h
  | cons x t => exact hb
theorem mj_win {i : Nat} {w : Cond} (h : mj_wi i = w) : w ∈ mj_tb := h ▸ mj_wi_in i
theorem mj_sw_e {z : Int} {k : Nat → Prop} : ∀ (ts : List Nat) (v : Int), mj_sw z k v ts → ∀ (i t : Nat), ts[i]? = some t → z = v + i → k t
  | [], _, _, i, t, h, _ => by simp at h
  | t' :: ts, v, h, 0, t, hi, hz => by
    obtain rfl : t' = t := by simpa using hi
    exact h.1 (by rw [hz]; simp)
  | t' :: ts, v, h, i + 1, t, hi, hz => mj_sw_e ts (v + 1) h.2 i t (by simpa using hi) (by rw [hz]; push_cast; omega)
theorem mj_vw {ci : Nat} (h : ci < 12) : vwCl[ci]? = some (vwCl.getD ci (RX0, TX0, 0)) := by
  rw [List.getD_eq_getElem?_getD]
  cases hc : vwCl[ci]? with
  | none => exact absurd (List.getElem?_eq_none_iff.mp hc) (by show ¬ 12 ≤ ci; omega)
  | some x => rfl
def mj_tc (ty : FieldType) : Bool := match ty with
  | .int => true
  | .boolean => true
  | .long => true
  | .object _ => true
  | .array _ => true
  | _ => false
theorem mj_tc_nf {ty : FieldType} (h : mj_tc ty = true) : ty ≠ .float ∧ ty ≠ .double := by
  constructor <;> (intro q; rw [q] at h; cases h)
theorem mj_tc0 : ∀ k, k < 19 → mj_tc (mj_ty 0 k) = true := by decide +kernel
theorem mj_tc1 : ∀ k, k < 4 → mj_tc (mj_ty 1 k) = true := by decide +kernel
theorem mj_tc2 : ∀ k, k < 8 → mj_tc (mj_ty 2 k) = true := by decide +kernel
theorem mj_tc3 : ∀ k, k < 15 → mj_tc (mj_ty 3 k) = true := by decide +kernel
theorem mj_tc4 : ∀ k, k < 4 → mj_tc (mj_ty 4 k) = true := by decide +kernel
theorem mj_tc5 : ∀ k, k < 6 → mj_tc (mj_ty 5 k) = true := by decide +kernel
theorem mj_tc6 : ∀ k, k < 4 → mj_tc (mj_ty 6 k) = true := by decide +kernel
theorem mj_tc7 : ∀ k, k < 12 → mj_tc (mj_ty 7 k) = true := by decide +kernel
theorem mj_tc8 : ∀ k, k < 4 → mj_tc (mj_ty 8 k) = true := by decide +kernel
theorem mj_tc9 : ∀ k, k < 15 → mj_tc (mj_ty 9 k) = true := by decide +kernel
theorem mj_tc10 : ∀ k, k < 14 → mj_tc (mj_ty 10 k) = true := by decide +kernel
theorem mj_tc11 : ∀ k, k < 62 → mj_tc (mj_ty 11 k) = true := by decide +kernel
theorem mj_layA : ∀ (ci : Nat) (r : vw_C), vwCl[ci]? = some r → ∀ w ∈ u_ws r.1 r.2.1 r.2.2, w ∈ mj_tb
  | 0, r, hr => by cases hr; exact mj_lay0
  | 1, r, hr => by cases hr; exact mj_lay1
  | 2, r, hr => by cases hr; exact mj_lay2
  | 3, r, hr => by cases hr; exact mj_lay3
  | 4, r, hr => by cases hr; exact mj_lay4
  | 5, r, hr => by cases hr; exact mj_lay5
  | 6, r, hr => by cases hr; exact mj_lay6
  | 7, r, hr => by cases hr; exact mj_lay7
  | 8, r, hr => by cases hr; exact mj_lay8
  | 9, r, hr => by cases hr; exact mj_lay9
  | 10, r, hr => by cases hr; exact mj_lay10
  | 11, r, hr => by cases hr; exact mj_lay11
  | n + 12, r, hr => by simp [vwCl] at hr
theorem mj_tyA : ∀ (ci : Nat) (r : vw_C), vwCl[ci]? = some r → ∀ k, k < r.2.2 → parseFieldDescriptor (r.2.1 k).2.2.1 = some (mj_ty ci k)
  | 0, r, hr => by cases hr; exact tyX0_ok
  | 1, r, hr => by cases hr; exact tyX1_ok
  | 2, r, hr => by cases hr; exact tyX2_ok
  | 3, r, hr => by cases hr; exact tyX3_ok
  | 4, r, hr => by cases hr; exact tyX4_ok
  | 5, r, hr => by cases hr; exact tyX5_ok
  | 6, r, hr => by cases hr; exact tyX6_ok
  | 7, r, hr => by cases hr; exact tyX7_ok
  | 8, r, hr => by cases hr; exact tyX8_ok
  | 9, r, hr => by cases hr; exact tyX10_ok
  | 10, r, hr => by cases hr; exact tyX11_ok
  | 11, r, hr => by cases hr; exact tyX12_ok
  | n + 12, r, hr => by simp [vwCl] at hr
theorem mj_nmA : ∀ (ci : Nat) (r : vw_C), vwCl[ci]? = some r → ∀ x, x < r.2.2 → ∀ y, y < r.2.2 → x ≠ y → (r.2.1 x).2.1 ≠ (r.2.1 y).2.1
  | 0, r, hr => by cases hr; exact nmX0
  | 1, r, hr => by cases hr; exact nmX1
  | 2, r, hr => by cases hr; exact nmX2
  | 3, r, hr => by cases hr; exact nmX3
  | 4, r, hr => by cases hr; exact nmX4
  | 5, r, hr => by cases hr; exact nmX5
  | 6, r, hr => by cases hr; exact nmX6
  | 7, r, hr => by cases hr; exact nmX7
  | 8, r, hr => by cases hr; exact nmX8
  | 9, r, hr => by cases hr; exact nmX10
  | 10, r, hr => by cases hr; exact nmX11
  | 11, r, hr => by cases hr; exact nmX12
  | n + 12, r, hr => by simp [vwCl] at hr
theorem mj_tcA : ∀ (ci : Nat) (r : vw_C), vwCl[ci]? = some r → ∀ k, k < r.2.2 → mj_tc (mj_ty ci k) = true
  | 0, r, hr => by cases hr; exact mj_tc0
  | 1, r, hr => by cases hr; exact mj_tc1
  | 2, r, hr => by cases hr; exact mj_tc2
  | 3, r, hr => by cases hr; exact mj_tc3
  | 4, r, hr => by cases hr; exact mj_tc4
  | 5, r, hr => by cases hr; exact mj_tc5
  | 6, r, hr => by cases hr; exact mj_tc6
  | 7, r, hr => by cases hr; exact mj_tc7
  | 8, r, hr => by cases hr; exact mj_tc8
  | 9, r, hr => by cases hr; exact mj_tc9
  | 10, r, hr => by cases hr; exact mj_tc10
  | 11, r, hr => by cases hr; exact mj_tc11
  | n + 12, r, hr => by simp [vwCl] at hr
theorem mj_nar0 {ty : FieldType} (h : mj_tc ty = true) (hs : mj_fs ty = 0) {z : Int} (hz : ty = .boolean → z = 0 ∨ z = 1) : narrow ty (mj_val (.inl z)) = mj_val (.inl z) ∧ fits ty (mj_val (.inl z)) = true := by
  cases ty with
  | int => exact ⟨rfl, rfl⟩
  | boolean => rcases hz rfl with rfl | rfl <;> exact ⟨rfl, rfl⟩
  | long => cases hs
  | object _ => cases hs
  | array _ => cases hs
  | _ => cases h
theorem mj_nar1 {ty : FieldType} (h : mj_tc ty = true) (hs : mj_fs ty = 1) {z : Int64} : narrow ty (mj_val (.inr (.inl z))) = mj_val (.inr (.inl z)) ∧ fits ty (mj_val (.inr (.inl z))) = true := by
  cases ty with
  | long => exact ⟨rfl, rfl⟩
  | int => cases hs
  | boolean => cases hs
  | object _ => cases hs
  | array _ => cases hs
  | _ => cases h
theorem mj_nar2 {ty : FieldType} (h : mj_tc ty = true) (hs : mj_fs ty ≠ 0) (hs1 : mj_fs ty ≠ 1) {z : Option Nat} : narrow ty (mj_val (.inr (.inr z))) = mj_val (.inr (.inr z)) ∧ fits ty (mj_val (.inr (.inr z))) = true := by
  cases ty with
  | object _ => cases z <;> exact ⟨rfl, rfl⟩
  | array _ => cases z <;> exact ⟨rfl, rfl⟩
  | long => exact absurd rfl hs1
  | int => exact absurd rfl hs
  | boolean => exact absurd rfl hs
  | _ => cases h
theorem mj_fs_le (ty : FieldType) : mj_fs ty = 0 ∨ mj_fs ty = 1 ∨ mj_fs ty = 2 := by
  cases ty <;> simp [mj_fs]
/-- the contract that a method's run gives -/
def mj_Mt (l : Launch) (D : va_G) (dA : Nat → ClassId) (B : Nat) (q : mj_T) (d : Nat) (av : List mj_V) (G : mj_G) (M : mj_M) (Q : mj_P) : Prop :=
  Met l q.1 (.code q.1 q.2.1 q.2.2.1 q.2.2.2.1 :: mj_tb) (mj_rm d q.2.2.2.2.2.2) (mj_Pc D dA B av G M) (mj_Q D dA B Q) q.2.2.2.2.2.2.1 q.2.2.2.2.2.2.2 (fun q => B ≤ q)
section MJS
variable {p : Program} {l : Launch} {e : Env} {R : Room} {s : State} {m : MethodId} {args : Array Value} {below : List Frame} {meth : Method} {c : Code} {own : String} {cc : ByteArray} {ret : Option FieldType} {D : va_G} {dA : Nat → ClassId} {B nL mc ms : Nat} {Q : mj_P}
set_option maxHeartbeats 4000000 in
set_option maxRecDepth 100000 in
theorem mj_snd (X : mj_X p l e R s m args below meth c own cc ret D dA B nL mc ms Q) {T : Nat → mj_T} {C : mj_C} {full : List mj_E} {ini : Bool} {d : Nat} (hini : ini = true → meth.name = "<init>") (hR : d + 1 ≤ R.frames ∧ 100 * (d + 1) + 100 ≤ R.locals)
    (hw3 : Cond.arrayClass .int ∈ mj_tb) (ho2 : Cond.instanceMethod objectInit ∈ mj_tb) (ho3 : Cond.code objectInit ⟨#[0xb1]⟩ 1 none ∈ mj_tb)
    (hlw : (Cond.static Lib.Math.max.name ∈ mj_tb ∧ Cond.code Lib.Math.max.name Lib.Math.max.code 2 (some .int) ∈ mj_tb) ∧ (Cond.static Lib.Math.min.name ∈ mj_tb ∧ Cond.code Lib.Math.min.name Lib.Math.min.code 2 (some .int) ∈ mj_tb) ∧ (Cond.static Lib.Math.abs.name ∈ mj_tb ∧ Cond.code Lib.Math.abs.name Lib.Math.abs.code 1 (some .int) ∈ mj_tb) ∧ Cond.initialized "java/lang/Math" ∈ mj_tb ∧ Cond.native arraycopyName ∈ mj_tb ∧ Cond.static arraycopyName ∈ mj_tb ∧ Cond.initialized "java/lang/System" ∈ mj_tb)
    (hT : ∀ y, mj_cm (T y) = true) (hC : ∀ y av G M Q, C y av G M Q → mj_Mt l D dA B (T y) d av G M Q) (hck : ∀ i x, full[i]? = some x → mj_cb T own ret nL ini cc full i x = true) :
    ∀ (rest : List mj_E) (L : mj_L) (st : List mj_V) (G : mj_G) (M : mj_M) (cb sb : Nat), mj_x (fun y => (T y).2.2.2.2.2.2) C full Q (fun rest L st G M cb sb => ∀ i, rest = full.drop i → mj_J X (mj_pc full i) L st G M cb sb) 1 rest L st G M cb sb → ∀ i, rest = full.drop i → mj_J X (mj_pc full i) L st G M cb sb := by
    intro rest0 L st G M cb sb h i hd0
    have ih : ∀ (i : Nat) (L : mj_L) (st : List mj_V) (G : mj_G) (M : mj_M) (cb sb : Nat), mj_x (fun y => (T y).2.2.2.2.2.2) C full Q (fun rest L st G M cb sb => ∀ i, rest = full.drop i → mj_J X (mj_pc full i) L st G M cb sb) 0 (full.drop i) L st G M cb sb → mj_J X (mj_pc full i) L st G M cb sb := fun i L st G M cb sb h => h i rfl
    subst hd0
    cases hd : full.drop i with
    | nil => rw [hd] at h; exact h.elim
    | cons x rest =>
      rw [hd] at h
      have hx : full[i]? = some x := by
        have h1 : (full.drop i)[0]? = some x := by rw [hd]; rfl
        rw [List.getElem?_drop] at h1
        exact h1
      have hrest : rest = full.drop (i + 1) := by
        have h1 : (full.drop i).drop 1 = rest := by rw [hd]; rfl
        rw [List.drop_drop] at h1
        rw [← h1, Nat.add_comm]
      subst hrest
      have hpc : mj_pc full i = x.2.1 := by unfold mj_pc; rw [hx]
      rw [hpc]
      have hc0 := hck i x hx
      obtain ⟨ins, pc, aux, imm⟩ := x
      simp only [mj_cb, Bool.and_eq_true, Bool.or_eq_true, decide_eq_true_eq] at hc0
      obtain ⟨⟨hdec, hnx⟩, hcx⟩ := hc0
      dsimp only at hdec hnx hcx h ⊢
      cases ins
      case iload_n k =>
        have h : mj_ldi L k.val (fun v => mj_x (fun y => (T y).2.2.2.2.2.2) C full Q (fun rest L st G M cb sb => ∀ i, rest = full.drop i → mj_J X (mj_pc full i) L st G M cb sb) 0 (full.drop (i + 1)) L (v :: st) G M cb sb) := h
        obtain ⟨z, h1, h2⟩ := mj_ldi_e h
        have hn := hnx.resolve_left Bool.false_ne_true
        have g := ih (i + 1) _ _ _ _ _ _ h2
        rw [hn] at g
        exact mj_o_iload_n X hdec h1 g
      case iload k =>
        have h : mj_ldi L k (fun v => mj_x (fun y => (T y).2.2.2.2.2.2) C full Q (fun rest L st G M cb sb => ∀ i, rest = full.drop i → mj_J X (mj_pc full i) L st G M cb sb) 0 (full.drop (i + 1)) L (v :: st) G M cb sb) := h
        obtain ⟨z, h1, h2⟩ := mj_ldi_e h
        have hn := hnx.resolve_left Bool.false_ne_true
        have g := ih (i + 1) _ _ _ _ _ _ h2
        rw [hn] at g
        exact mj_o_iload X hdec h1 g
      case lload_n k =>
        have h : mj_ldl L k.val (fun v => mj_x (fun y => (T y).2.2.2.2.2.2) C full Q (fun rest L st G M cb sb => ∀ i, rest = full.drop i → mj_J X (mj_pc full i) L st G M cb sb) 0 (full.drop (i + 1)) L (v :: st) G M cb sb) := h
        obtain ⟨z, h1, h2⟩ := mj_ldl_e h
        have hn := hnx.resolve_left Bool.false_ne_true
        have g := ih (i + 1) _ _ _ _ _ _ h2
        rw [hn] at g
        exact mj_o_lload_n X hdec h1 g
      case lload k =>
        have h : mj_ldl L k (fun v => mj_x (fun y => (T y).2.2.2.2.2.2) C full Q (fun rest L st G M cb sb => ∀ i, rest = full.drop i → mj_J X (mj_pc full i) L st G M cb sb) 0 (full.drop (i + 1)) L (v :: st) G M cb sb) := h
        obtain ⟨z, h1, h2⟩ := mj_ldl_e h
        have hn := hnx.resolve_left Bool.false_ne_true
        have g := ih (i + 1) _ _ _ _ _ _ h2
        rw [hn] at g
        exact mj_o_lload X hdec h1 g
      case aload_n k =>
        have h : mj_lda L k.val (fun v => mj_x (fun y => (T y).2.2.2.2.2.2) C full Q (fun rest L st G M cb sb => ∀ i, rest = full.drop i → mj_J X (mj_pc full i) L st G M cb sb) 0 (full.drop (i + 1)) L (v :: st) G M cb sb) := h
        obtain ⟨z, h1, h2⟩ := mj_lda_e h
        have hn := hnx.resolve_left Bool.false_ne_true
        have g := ih (i + 1) _ _ _ _ _ _ h2
        rw [hn] at g
        exact mj_o_aload_n X hdec h1 g
      case aload k =>
        have h : mj_lda L k (fun v => mj_x (fun y => (T y).2.2.2.2.2.2) C full Q (fun rest L st G M cb sb => ∀ i, rest = full.drop i → mj_J X (mj_pc full i) L st G M cb sb) 0 (full.drop (i + 1)) L (v :: st) G M cb sb) := h
        obtain ⟨z, h1, h2⟩ := mj_lda_e h
        have hn := hnx.resolve_left Bool.false_ne_true
        have g := ih (i + 1) _ _ _ _ _ _ h2
        rw [hn] at g
        exact mj_o_aload X hdec h1 g
      case istore_n k =>
        have h : mj_i1 st (fun z st => mj_x (fun y => (T y).2.2.2.2.2.2) C full Q (fun rest L st G M cb sb => ∀ i, rest = full.drop i → mj_J X (mj_pc full i) L st G M cb sb) 0 (full.drop (i + 1)) (mj_s1 L k.val (.inl z)) st G M cb sb) := h
        obtain ⟨z, st, rfl, h2⟩ := mj_i1_e h
        have hn := hnx.resolve_left Bool.false_ne_true
        have g := ih (i + 1) _ _ _ _ _ _ h2
        rw [hn] at g
        exact mj_o_istore_n X hdec (of_decide_eq_true hcx) g
      case istore k =>
        have h : mj_i1 st (fun z st => mj_x (fun y => (T y).2.2.2.2.2.2) C full Q (fun rest L st G M cb sb => ∀ i, rest = full.drop i → mj_J X (mj_pc full i) L st G M cb sb) 0 (full.drop (i + 1)) (mj_s1 L k (.inl z)) st G M cb sb) := h
        obtain ⟨z, st, rfl, h2⟩ := mj_i1_e h
        have hn := hnx.resolve_left Bool.false_ne_true
        have g := ih (i + 1) _ _ _ _ _ _ h2
        rw [hn] at g
        exact mj_o_istore X hdec (of_decide_eq_true hcx) g
      case lstore_n k =>
        have h : mj_l1 st (fun z st => mj_x (fun y => (T y).2.2.2.2.2.2) C full Q (fun rest L st G M cb sb => ∀ i, rest = full.drop i → mj_J X (mj_pc full i) L st G M cb sb) 0 (full.drop (i + 1)) (mj_s2 L k.val (.inr (.inl z))) st G M cb sb) := h
        obtain ⟨z, st, rfl, h2⟩ := mj_l1_e h
        have hn := hnx.resolve_left Bool.false_ne_true
        have g := ih (i + 1) _ _ _ _ _ _ h2
        rw [hn] at g
        exact mj_o_lstore_n X hdec (of_decide_eq_true hcx) g
      case lstore k =>
        have h : mj_l1 st (fun z st => mj_x (fun y => (T y).2.2.2.2.2.2) C full Q (fun rest L st G M cb sb => ∀ i, rest = full.drop i → mj_J X (mj_pc full i) L st G M cb sb) 0 (full.drop (i + 1)) (mj_s2 L k (.inr (.inl z))) st G M cb sb) := h
        obtain ⟨z, st, rfl, h2⟩ := mj_l1_e h
        have hn := hnx.resolve_left Bool.false_ne_true
        have g := ih (i + 1) _ _ _ _ _ _ h2
        rw [hn] at g
        exact mj_o_lstore X hdec (of_decide_eq_true hcx) g
      case astore_n k =>
        have h : mj_r1 st (fun z st => mj_x (fun y => (T y).2.2.2.2.2.2) C full Q (fun rest L st G M cb sb => ∀ i, rest = full.drop i → mj_J X (mj_pc full i) L st G M cb sb) 0 (full.drop (i + 1)) (mj_s1 L k.val (.inr (.inr z))) st G M cb sb) := h
        obtain ⟨z, st, rfl, h2⟩ := mj_r1_e h
        have hn := hnx.resolve_left Bool.false_ne_true
        have g := ih (i + 1) _ _ _ _ _ _ h2
        rw [hn] at g
        exact mj_o_astore_n X hdec (of_decide_eq_true hcx) g
      case astore k =>
        have h : mj_r1 st (fun z st => mj_x (fun y => (T y).2.2.2.2.2.2) C full Q (fun rest L st G M cb sb => ∀ i, rest = full.drop i → mj_J X (mj_pc full i) L st G M cb sb) 0 (full.drop (i + 1)) (mj_s1 L k (.inr (.inr z))) st G M cb sb) := h
        obtain ⟨z, st, rfl, h2⟩ := mj_r1_e h
        have hn := hnx.resolve_left Bool.false_ne_true
        have g := ih (i + 1) _ _ _ _ _ _ h2
        rw [hn] at g
        exact mj_o_astore X hdec (of_decide_eq_true hcx) g
      case iinc k c =>
        have h : mj_ldi L k (fun v => mj_i1 [v] fun z _ => (mj_in (z + c) ∧ mj_x (fun y => (T y).2.2.2.2.2.2) C full Q (fun rest L st G M cb sb => ∀ i, rest = full.drop i → mj_J X (mj_pc full i) L st G M cb sb) 0 (full.drop (i + 1)) (mj_s1 L k (.inl (z + c))) st G M cb sb) ∨ ∀ q, mj_in q → q = (Int32.ofInt z + Int32.ofInt c).toInt → mj_x (fun y => (T y).2.2.2.2.2.2) C full Q (fun rest L st G M cb sb => ∀ i, rest = full.drop i → mj_J X (mj_pc full i) L st G M cb sb) 0 (full.drop (i + 1)) (mj_s1 L k (.inl q)) st G M cb sb) := h
        obtain ⟨z, h1, h2⟩ := mj_ldi_e h
        have hn := hnx.resolve_left Bool.false_ne_true
        have h2 : (mj_in (z + c) ∧ _) ∨ _ := h2
        rcases h2 with h2 | h2
        · have g := ih (i + 1) _ _ _ _ _ _ h2.2
          rw [hn] at g
          exact mj_o_iinc X hdec h1 (of_decide_eq_true hcx) h2.1 g
        · refine mj_o_iincw X hdec h1 (of_decide_eq_true hcx) (fun q hq hq2 => ?_)
          have g := ih (i + 1) _ _ _ _ _ _ (h2 q hq hq2)
          rw [hn] at g
          exact g
      case iconst z =>
        have h : mj_x (fun y => (T y).2.2.2.2.2.2) C full Q (fun rest L st G M cb sb => ∀ i, rest = full.drop i → mj_J X (mj_pc full i) L st G M cb sb) 0 (full.drop (i + 1)) L (.inl z :: st) G M cb sb := h
        have hn := hnx.resolve_left Bool.false_ne_true
        have g := ih (i + 1) _ _ _ _ _ _ h
        rw [hn] at g
        exact mj_o_iconst X hdec (show -2147483648 ≤ z ∧ z < 2147483648 from of_decide_eq_true hcx) g
      case bipush z =>
        have h : mj_x (fun y => (T y).2.2.2.2.2.2) C full Q (fun rest L st G M cb sb => ∀ i, rest = full.drop i → mj_J X (mj_pc full i) L st G M cb sb) 0 (full.drop (i + 1)) L (.inl z :: st) G M cb sb := h
        have hn := hnx.resolve_left Bool.false_ne_true
        have g := ih (i + 1) _ _ _ _ _ _ h
        rw [hn] at g
        simp only [mj_cx, Bool.and_eq_true, decide_eq_true_eq] at hcx
        exact mj_o_bipush X hdec hcx.1 hcx.2 g
      case sipush z =>
        have h : mj_x (fun y => (T y).2.2.2.2.2.2) C full Q (fun rest L st G M cb sb => ∀ i, rest = full.drop i → mj_J X (mj_pc full i) L st G M cb sb) 0 (full.drop (i + 1)) L (.inl z :: st) G M cb sb := h
        have hn := hnx.resolve_left Bool.false_ne_true
        have g := ih (i + 1) _ _ _ _ _ _ h
        rw [hn] at g
        simp only [mj_cx, Bool.and_eq_true, decide_eq_true_eq] at hcx
        exact mj_o_sipush X hdec hcx.1 hcx.2 g
      case ldc k =>
        have h : mj_x (fun y => (T y).2.2.2.2.2.2) C full Q (fun rest L st G M cb sb => ∀ i, rest = full.drop i → mj_J X (mj_pc full i) L st G M cb sb) 0 (full.drop (i + 1)) L (.inl imm :: st) G M cb sb := h
        have hn := hnx.resolve_left Bool.false_ne_true
        have g := ih (i + 1) _ _ _ _ _ _ h
        rw [hn] at g
        simp only [mj_cx, Bool.and_eq_true, decide_eq_true_eq] at hcx
        exact mj_o_ldc X hdec hcx.1 (mj_win hcx.2) g
      case ldc2_w k =>
        have h : mj_x (fun y => (T y).2.2.2.2.2.2) C full Q (fun rest L st G M cb sb => ∀ i, rest = full.drop i → mj_J X (mj_pc full i) L st G M cb sb) 0 (full.drop (i + 1)) L (.inr (.inl (Int64.ofInt imm)) :: st) G M cb sb := h
        have hn := hnx.resolve_left Bool.false_ne_true
        have g := ih (i + 1) _ _ _ _ _ _ h
        rw [hn] at g
        exact mj_o_ldc2 X hdec (mj_win (of_decide_eq_true hcx)) g
      case lconst k =>
        have h : mj_x (fun y => (T y).2.2.2.2.2.2) C full Q (fun rest L st G M cb sb => ∀ i, rest = full.drop i → mj_J X (mj_pc full i) L st G M cb sb) 0 (full.drop (i + 1)) L (.inr (.inl (Int64.ofNat k.val)) :: st) G M cb sb := h
        have hn := hnx.resolve_left Bool.false_ne_true
        have g := ih (i + 1) _ _ _ _ _ _ h
        rw [hn] at g
        exact mj_o_lconst X hdec g
      case aconst_null =>
        have h : mj_x (fun y => (T y).2.2.2.2.2.2) C full Q (fun rest L st G M cb sb => ∀ i, rest = full.drop i → mj_J X (mj_pc full i) L st G M cb sb) 0 (full.drop (i + 1)) L (.inr (.inr none) :: st) G M cb sb := h
        have hn := hnx.resolve_left Bool.false_ne_true
        have g := ih (i + 1) _ _ _ _ _ _ h
        rw [hn] at g
        exact mj_o_null X hdec g
      case iadd =>
        have h : mj_bin (fun x y => x + y) st (fun x y => x + y) (fun st => mj_x (fun y => (T y).2.2.2.2.2.2) C full Q (fun rest L st G M cb sb => ∀ i, rest = full.drop i → mj_J X (mj_pc full i) L st G M cb sb) 0 (full.drop (i + 1)) L st G M cb sb) := h
        obtain ⟨y, st, rfl, u1⟩ := mj_i1_e h
        obtain ⟨x, st, rfl, u2⟩ := mj_i1_e u1
        have hn := hnx.resolve_left Bool.false_ne_true
        refine mj_o_iadd X hdec ?_
        rcases u2 with ⟨h1, h2⟩ | h2
        · have g := ih (i + 1) _ _ _ _ _ _ h2
          rw [hn] at g
          exact Or.inl ⟨h1, g⟩
        · refine Or.inr (fun z hz hz2 => ?_)
          have g := ih (i + 1) _ _ _ _ _ _ (h2 z hz hz2)
          rw [hn] at g
          exact g
      case isub =>
        have h : mj_bin (fun x y => x - y) st (fun x y => x - y) (fun st => mj_x (fun y => (T y).2.2.2.2.2.2) C full Q (fun rest L st G M cb sb => ∀ i, rest = full.drop i → mj_J X (mj_pc full i) L st G M cb sb) 0 (full.drop (i + 1)) L st G M cb sb) := h
        obtain ⟨y, st, rfl, u1⟩ := mj_i1_e h
        obtain ⟨x, st, rfl, u2⟩ := mj_i1_e u1
        have hn := hnx.resolve_left Bool.false_ne_true
        refine mj_o_isub X hdec ?_
        rcases u2 with ⟨h1, h2⟩ | h2
        · have g := ih (i + 1) _ _ _ _ _ _ h2
          rw [hn] at g
          exact Or.inl ⟨h1, g⟩
        · refine Or.inr (fun z hz hz2 => ?_)
          have g := ih (i + 1) _ _ _ _ _ _ (h2 z hz hz2)
          rw [hn] at g
          exact g
      case imul =>
        have h : mj_bin (fun x y => x * y) st (fun x y => x * y) (fun st => mj_x (fun y => (T y).2.2.2.2.2.2) C full Q (fun rest L st G M cb sb => ∀ i, rest = full.drop i → mj_J X (mj_pc full i) L st G M cb sb) 0 (full.drop (i + 1)) L st G M cb sb) := h
        obtain ⟨y, st, rfl, u1⟩ := mj_i1_e h
        obtain ⟨x, st, rfl, u2⟩ := mj_i1_e u1
        have hn := hnx.resolve_left Bool.false_ne_true
        refine mj_o_imul X hdec ?_
        rcases u2 with ⟨h1, h2⟩ | h2
        · have g := ih (i + 1) _ _ _ _ _ _ h2
          rw [hn] at g
          exact Or.inl ⟨h1, g⟩
        · refine Or.inr (fun z hz hz2 => ?_)
          have g := ih (i + 1) _ _ _ _ _ _ (h2 z hz hz2)
          rw [hn] at g
          exact g
      case iand =>
        have h : mj_op st (fun x y => x &&& y) (fun st => mj_x (fun y => (T y).2.2.2.2.2.2) C full Q (fun rest L st G M cb sb => ∀ i, rest = full.drop i → mj_J X (mj_pc full i) L st G M cb sb) 0 (full.drop (i + 1)) L st G M cb sb) := h
        obtain ⟨y, st, rfl, u1⟩ := mj_i1_e h
        obtain ⟨x, st, rfl, u2⟩ := mj_i1_e u1
        have hn := hnx.resolve_left Bool.false_ne_true
        refine mj_o_iand X hdec (fun z hz hz2 => ?_)
        have g := ih (i + 1) _ _ _ _ _ _ (u2 z hz hz2)
        rw [hn] at g
        exact g
      case ior =>
        have h : mj_op st (fun x y => x ||| y) (fun st => mj_x (fun y => (T y).2.2.2.2.2.2) C full Q (fun rest L st G M cb sb => ∀ i, rest = full.drop i → mj_J X (mj_pc full i) L st G M cb sb) 0 (full.drop (i + 1)) L st G M cb sb) := h
        obtain ⟨y, st, rfl, u1⟩ := mj_i1_e h
        obtain ⟨x, st, rfl, u2⟩ := mj_i1_e u1
        have hn := hnx.resolve_left Bool.false_ne_true
        refine mj_o_ior X hdec (fun z hz hz2 => ?_)
        have g := ih (i + 1) _ _ _ _ _ _ (u2 z hz hz2)
        rw [hn] at g
        exact g
      case ishl =>
        have h : mj_op st (fun x y => x <<< (y &&& 31)) (fun st => mj_x (fun y => (T y).2.2.2.2.2.2) C full Q (fun rest L st G M cb sb => ∀ i, rest = full.drop i → mj_J X (mj_pc full i) L st G M cb sb) 0 (full.drop (i + 1)) L st G M cb sb) := h
        obtain ⟨y, st, rfl, u1⟩ := mj_i1_e h
        obtain ⟨x, st, rfl, u2⟩ := mj_i1_e u1
        have hn := hnx.resolve_left Bool.false_ne_true
        refine mj_o_ishl X hdec (fun z hz hz2 => ?_)
        have g := ih (i + 1) _ _ _ _ _ _ (u2 z hz hz2)
        rw [hn] at g
        exact g
      case ishr =>
        have h : mj_op st (fun x y => x >>> (y &&& 31)) (fun st => mj_x (fun y => (T y).2.2.2.2.2.2) C full Q (fun rest L st G M cb sb => ∀ i, rest = full.drop i → mj_J X (mj_pc full i) L st G M cb sb) 0 (full.drop (i + 1)) L st G M cb sb) := h
        obtain ⟨y, st, rfl, u1⟩ := mj_i1_e h
        obtain ⟨x, st, rfl, u2⟩ := mj_i1_e u1
        have hn := hnx.resolve_left Bool.false_ne_true
        refine mj_o_ishr X hdec (fun z hz hz2 => ?_)
        have g := ih (i + 1) _ _ _ _ _ _ (u2 z hz hz2)
        rw [hn] at g
        exact g
      case iushr =>
        have h : mj_op st (fun x y => (x.toUInt32 >>> (y.toUInt32 &&& Int32.toUInt32 31)).toInt32) (fun st => mj_x (fun y => (T y).2.2.2.2.2.2) C full Q (fun rest L st G M cb sb => ∀ i, rest = full.drop i → mj_J X (mj_pc full i) L st G M cb sb) 0 (full.drop (i + 1)) L st G M cb sb) := h
        obtain ⟨y, st, rfl, u1⟩ := mj_i1_e h
        obtain ⟨x, st, rfl, u2⟩ := mj_i1_e u1
        have hn := hnx.resolve_left Bool.false_ne_true
        refine mj_o_iushr X hdec (fun z hz hz2 => ?_)
        have g := ih (i + 1) _ _ _ _ _ _ (u2 z hz hz2)
        rw [hn] at g
        exact g
      case ineg =>
        have h : mj_un st (fun x => -x) (fun st => mj_x (fun y => (T y).2.2.2.2.2.2) C full Q (fun rest L st G M cb sb => ∀ i, rest = full.drop i → mj_J X (mj_pc full i) L st G M cb sb) 0 (full.drop (i + 1)) L st G M cb sb) := h
        obtain ⟨x, st, rfl, u1⟩ := mj_i1_e h
        have hn := hnx.resolve_left Bool.false_ne_true
        refine mj_o_ineg X hdec (fun z hz hz2 => ?_)
        have g := ih (i + 1) _ _ _ _ _ _ (u1 z hz hz2)
        rw [hn] at g
        exact g
      case i2b =>
        have h : mj_un st (fun x => x.toInt8.toInt32) (fun st => mj_x (fun y => (T y).2.2.2.2.2.2) C full Q (fun rest L st G M cb sb => ∀ i, rest = full.drop i → mj_J X (mj_pc full i) L st G M cb sb) 0 (full.drop (i + 1)) L st G M cb sb) := h
        obtain ⟨x, st, rfl, u1⟩ := mj_i1_e h
        have hn := hnx.resolve_left Bool.false_ne_true
        refine mj_o_i2b X hdec (fun z hz hz2 => ?_)
        have g := ih (i + 1) _ _ _ _ _ _ (u1 z hz hz2)
        rw [hn] at g
        exact g
      case dup =>
        have h : mj_c1 st (fun v st => mj_x (fun y => (T y).2.2.2.2.2.2) C full Q (fun rest L st G M cb sb => ∀ i, rest = full.drop i → mj_J X (mj_pc full i) L st G M cb sb) 0 (full.drop (i + 1)) L (v :: v :: st) G M cb sb) := h
        obtain ⟨v, st, rfl, h1, h2⟩ := mj_c1_e h
        have hn := hnx.resolve_left Bool.false_ne_true
        have g := ih (i + 1) _ _ _ _ _ _ h2
        rw [hn] at g
        exact mj_o_dup X hdec h1 g
      case dup2 =>
        have h : mj_c1 st (fun v st => mj_c1 st fun w st => mj_x (fun y => (T y).2.2.2.2.2.2) C full Q (fun rest L st G M cb sb => ∀ i, rest = full.drop i → mj_J X (mj_pc full i) L st G M cb sb) 0 (full.drop (i + 1)) L (v :: w :: v :: w :: st) G M cb sb) := h
        obtain ⟨v, st, rfl, h1, u1⟩ := mj_c1_e h
        obtain ⟨w, st, rfl, h2, h3⟩ := mj_c1_e u1
        have hn := hnx.resolve_left Bool.false_ne_true
        have g := ih (i + 1) _ _ _ _ _ _ h3
        rw [hn] at g
        exact mj_o_dup2 X hdec h1 h2 g
      case pop =>
        have h : mj_c1 st (fun _ st => mj_x (fun y => (T y).2.2.2.2.2.2) C full Q (fun rest L st G M cb sb => ∀ i, rest = full.drop i → mj_J X (mj_pc full i) L st G M cb sb) 0 (full.drop (i + 1)) L st G M cb sb) := h
        obtain ⟨v, st, rfl, h1, h2⟩ := mj_c1_e h
        have hn := hnx.resolve_left Bool.false_ne_true
        have g := ih (i + 1) _ _ _ _ _ _ h2
        rw [hn] at g
        exact mj_o_pop X hdec h1 g
      case ifCond cd off =>
        have h : mj_i1 st (fun z st => mj_br (mj_cc cd z 0) (mj_x (fun y => (T y).2.2.2.2.2.2) C full Q (fun rest L st G M cb sb => ∀ i, rest = full.drop i → mj_J X (mj_pc full i) L st G M cb sb) 0 (full.drop (mj_hd aux)) L st G M cb sb) (mj_x (fun y => (T y).2.2.2.2.2.2) C full Q (fun rest L st G M cb sb => ∀ i, rest = full.drop i → mj_J X (mj_pc full i) L st G M cb sb) 0 (full.drop (i + 1)) L st G M cb sb)) := h
        obtain ⟨z, st, rfl, h1, h2⟩ := mj_i1_e h
        have hn := hnx.resolve_left Bool.false_ne_true
        have ht := of_decide_eq_true hcx
        have g1 := fun q => ih (mj_hd aux) _ _ _ _ _ _ (h1 q)
        have g2 := fun q => ih (i + 1) _ _ _ _ _ _ (h2 q)
        rw [hn] at g2
        cases cd
        · exact mj_o_if_eq X hdec ht g1 g2
        · exact mj_o_if_ne X hdec ht g1 g2
        · exact mj_o_if_lt X hdec ht g1 g2
        · exact mj_o_if_ge X hdec ht g1 g2
        · exact mj_o_if_gt X hdec ht g1 g2
        · exact mj_o_if_le X hdec ht g1 g2
      case if_icmp cd off =>
        have h : mj_i1 st (fun y st => mj_i1 st fun z st => mj_br (mj_cc cd z y) (mj_x (fun y => (T y).2.2.2.2.2.2) C full Q (fun rest L st G M cb sb => ∀ i, rest = full.drop i → mj_J X (mj_pc full i) L st G M cb sb) 0 (full.drop (mj_hd aux)) L st G M cb sb) (mj_x (fun y => (T y).2.2.2.2.2.2) C full Q (fun rest L st G M cb sb => ∀ i, rest = full.drop i → mj_J X (mj_pc full i) L st G M cb sb) 0 (full.drop (i + 1)) L st G M cb sb)) := h
        obtain ⟨y, st, rfl, u1⟩ := mj_i1_e h
        obtain ⟨z, st, rfl, h1, h2⟩ := mj_i1_e u1
        have hn := hnx.resolve_left Bool.false_ne_true
        have ht := of_decide_eq_true hcx
        have g1 := fun q => ih (mj_hd aux) _ _ _ _ _ _ (h1 q)
        have g2 := fun q => ih (i + 1) _ _ _ _ _ _ (h2 q)
        rw [hn] at g2
        cases cd
        · exact mj_o_icmp_eq X hdec ht g1 g2
        · exact mj_o_icmp_ne X hdec ht g1 g2
        · exact mj_o_icmp_lt X hdec ht g1 g2
        · exact mj_o_icmp_ge X hdec ht g1 g2
        · exact mj_o_icmp_gt X hdec ht g1 g2
        · exact mj_o_icmp_le X hdec ht g1 g2
      case ifnull off =>
        have h : mj_r1 st (fun z st => mj_br (z = none) (mj_x (fun y => (T y).2.2.2.2.2.2) C full Q (fun rest L st G M cb sb => ∀ i, rest = full.drop i → mj_J X (mj_pc full i) L st G M cb sb) 0 (full.drop (mj_hd aux)) L st G M cb sb) (mj_x (fun y => (T y).2.2.2.2.2.2) C full Q (fun rest L st G M cb sb => ∀ i, rest = full.drop i → mj_J X (mj_pc full i) L st G M cb sb) 0 (full.drop (i + 1)) L st G M cb sb)) := h
        obtain ⟨z, st, rfl, h1, h2⟩ := mj_r1_e h
        have hn := hnx.resolve_left Bool.false_ne_true
        have ht := of_decide_eq_true hcx
        have g1 := fun q => ih (mj_hd aux) _ _ _ _ _ _ (h1 q)
        have g2 := fun q => ih (i + 1) _ _ _ _ _ _ (h2 q)
        rw [hn] at g2
        exact mj_o_ifnull X hdec ht g1 g2
      case ifnonnull off =>
        have h : mj_r1 st (fun z st => mj_br (z ≠ none) (mj_x (fun y => (T y).2.2.2.2.2.2) C full Q (fun rest L st G M cb sb => ∀ i, rest = full.drop i → mj_J X (mj_pc full i) L st G M cb sb) 0 (full.drop (mj_hd aux)) L st G M cb sb) (mj_x (fun y => (T y).2.2.2.2.2.2) C full Q (fun rest L st G M cb sb => ∀ i, rest = full.drop i → mj_J X (mj_pc full i) L st G M cb sb) 0 (full.drop (i + 1)) L st G M cb sb)) := h
        obtain ⟨z, st, rfl, h1, h2⟩ := mj_r1_e h
        have hn := hnx.resolve_left Bool.false_ne_true
        have ht := of_decide_eq_true hcx
        have g1 := fun q => ih (mj_hd aux) _ _ _ _ _ _ (h1 q)
        have g2 := fun q => ih (i + 1) _ _ _ _ _ _ (h2 q)
        rw [hn] at g2
        exact mj_o_ifnonnull X hdec ht g1 g2
      case goto off =>
        have h : mj_x (fun y => (T y).2.2.2.2.2.2) C full Q (fun rest L st G M cb sb => ∀ i, rest = full.drop i → mj_J X (mj_pc full i) L st G M cb sb) 0 (full.drop (mj_hd aux)) L st G M cb sb := h
        exact mj_o_goto X hdec (of_decide_eq_true hcx) (ih (mj_hd aux) _ _ _ _ _ _ h)
      case getfield k =>
        have h0 : aux ≠ [] ∧ mj_br (mj_hd aux = 49) (mj_gw (mj_h1 aux) st G fun st => mj_x (fun y => (T y).2.2.2.2.2.2) C full Q (fun rest L st G M cb sb => ∀ i, rest = full.drop i → mj_J X (mj_pc full i) L st G M cb sb) 0 (full.drop (i + 1)) L st G M cb sb) (mj_get (mj_hd aux) (mj_h1 aux) st G M (fun st => mj_x (fun y => (T y).2.2.2.2.2.2) C full Q (fun rest L st G M cb sb => ∀ i, rest = full.drop i → mj_J X (mj_pc full i) L st G M cb sb) 0 (full.drop (i + 1)) L st G M cb sb)) := h
        by_cases hw49 : mj_hd aux = 49
        · have h := h0.2.1 hw49
          have hcx := mj_em h0.1 hcx
          rw [hw49] at hcx
          have hcx := mj_win (of_decide_eq_true hcx)
          have hn := hnx.resolve_left Bool.false_ne_true
          obtain ⟨a, st, rfl, t, nn, hG, ht, u1⟩ := mj_a1_e h
          cases hf : mj_h1 aux with
          | zero =>
            rw [hf] at u1 hcx
            have g := ih (i + 1) _ _ _ _ _ _ u1
            rw [hn] at g
            exact mj_o_getc X hdec hcx hG ht g
          | succ fk =>
            rw [hf] at u1 hcx
            have g := ih (i + 1) _ _ _ _ _ _ u1
            rw [hn] at g
            exact mj_o_getw X hdec hcx hG ht g
        have h := h0.2.2 hw49
        obtain ⟨a, st, rfl, t, nn, hG, ht, u1⟩ := mj_a1_e h
        have hn := hnx.resolve_left Bool.false_ne_true
        have hcx := mj_em h0.1 hcx
        have hb49 : Nat.beq (mj_hd aux) 49 = false := by cases hq : Nat.beq (mj_hd aux) 49 with
          | true => exact absurd (Nat.eq_of_beq_eq_true hq) hw49
          | false => rfl
        rw [hb49] at hcx
        simp only [cond_false, Bool.and_eq_true, decide_eq_true_eq] at hcx
        obtain ⟨⟨c1, c2⟩, c3⟩ := hcx
        have hr := mj_vw c1
        have hs : mj_so (mj_hd aux) (mj_h1 aux) = mj_fs (mj_ty (mj_hd aux) (mj_h1 aux)) := rfl
        rcases mj_fs_le (mj_ty (mj_hd aux) (mj_h1 aux)) with q | q | q
        · rw [hs, q] at u1
          have g := ih (i + 1) _ _ _ _ _ _ u1
          rw [hn] at g
          exact mj_o_get X (v := .inl (M.1 a (mj_h1 aux))) hdec hr c2 (mj_layA _ _ hr) (mj_win c3) hG ht (fun hM => ⟨by rw [hs, q]; rfl, hM _ _⟩) g
        · rw [hs, q] at u1
          have g := ih (i + 1) _ _ _ _ _ _ u1
          rw [hn] at g
          exact mj_o_get X (v := .inr (.inl (M.2.1 a (mj_h1 aux)))) hdec hr c2 (mj_layA _ _ hr) (mj_win c3) hG ht (fun hM => ⟨by rw [hs, q]; rfl, trivial⟩) g
        · rw [hs, q] at u1
          obtain ⟨h1, h2⟩ := u1
          cases hm : M.2.2 a (mj_h1 aux) with
          | none =>
            have g := ih (i + 1) _ _ _ _ _ _ (h2 hm)
            rw [hn] at g
            exact mj_o_get X (v := .inr (.inr none)) hdec hr c2 (mj_layA _ _ hr) (mj_win c3) hG ht (fun hM => ⟨by rw [hs, q]; show _ = va_rf (M.2.2 a (mj_h1 aux)); rw [hm]; rfl, trivial⟩) g
          | some b =>
            have g := ih (i + 1) _ _ _ _ _ _ (h1 b hm)
            rw [hn] at g
            exact mj_o_get X (v := .inr (.inr (some b))) hdec hr c2 (mj_layA _ _ hr) (mj_win c3) hG ht (fun hM => ⟨by rw [hs, q]; show _ = va_rf (M.2.2 a (mj_h1 aux)); rw [hm]; rfl, trivial⟩) g
      case putfield k =>
        have h0 : aux ≠ [] ∧ mj_put (mj_hd aux) (mj_h1 aux) st G M (fun st M => mj_x (fun y => (T y).2.2.2.2.2.2) C full Q (fun rest L st G M cb sb => ∀ i, rest = full.drop i → mj_J X (mj_pc full i) L st G M cb sb) 0 (full.drop (i + 1)) L st G M cb sb) := h
        have h := h0.2
        have hcx := mj_em h0.1 hcx
        have hn := hnx.resolve_left Bool.false_ne_true
        simp only [Bool.and_eq_true, Bool.or_eq_true, Bool.not_eq_true', decide_eq_true_eq] at hcx
        obtain ⟨⟨⟨c1, c2⟩, c3⟩, c4⟩ := hcx
        have hr := mj_vw c1
        have hs : mj_so (mj_hd aux) (mj_h1 aux) = mj_fs (mj_ty (mj_hd aux) (mj_h1 aux)) := rfl
        have htc := mj_tcA _ _ hr _ c2
        have c5 := c4.imp id (fun q => (⟨hini q.1, q.2⟩ : meth.name = "<init>" ∧ _))
        unfold mj_put at h
        rcases mj_fs_le (mj_ty (mj_hd aux) (mj_h1 aux)) with q | q | q
        · rw [hs, q] at h
          obtain ⟨z, st, rfl, u1⟩ := mj_i1_e h
          obtain ⟨a, st, rfl, t, nn, hG, ht, h9, hb, u2⟩ := mj_a1_e u1
          have g := ih (i + 1) _ _ _ _ _ _ u2
          rw [hn] at g
          obtain ⟨n1, n2⟩ := mj_nar0 htc q hb
          exact mj_o_put X hdec hr c2 (mj_layA _ _ hr) (mj_win c3) (mj_tyA _ _ hr) (mj_nmA _ _ hr) c5 hG ht h9 n1 n2 (fun hM hz => by rw [hs, q]; exact mj_u0 hM hz) g
        · rw [hs, q] at h
          obtain ⟨z, st, rfl, u3⟩ := mj_l1_e h
          obtain ⟨a, st, rfl, t, nn, hG, ht, h9, u4⟩ := mj_a1_e u3
          have g := ih (i + 1) _ _ _ _ _ _ u4
          rw [hn] at g
          obtain ⟨n1, n2⟩ := mj_nar1 htc q (z := z)
          exact mj_o_put X hdec hr c2 (mj_layA _ _ hr) (mj_win c3) (mj_tyA _ _ hr) (mj_nmA _ _ hr) c5 hG ht h9 n1 n2 (fun hM hz => by rw [hs, q]; exact mj_u1 hM) g
        · rw [hs, q] at h
          obtain ⟨z, st, rfl, u5⟩ := mj_r1_e h
          obtain ⟨a, st, rfl, t, nn, hG, ht, h9, u6⟩ := mj_a1_e u5
          have g := ih (i + 1) _ _ _ _ _ _ u6
          rw [hn] at g
          obtain ⟨n1, n2⟩ := mj_nar2 htc (by rw [q]; decide) (by rw [q]; decide) (z := z)
          exact mj_o_put X hdec hr c2 (mj_layA _ _ hr) (mj_win c3) (mj_tyA _ _ hr) (mj_nmA _ _ hr) c5 hG ht h9 n1 n2 (fun hM hz => by rw [hs, q]; exact mj_u2 hM) g
      case iaload =>
        have h : mj_ald 0 st G (fun a i2 st => mj_x (fun y => (T y).2.2.2.2.2.2) C full Q (fun rest L st G M cb sb => ∀ i, rest = full.drop i → mj_J X (mj_pc full i) L st G M cb sb) 0 (full.drop (i + 1)) L (.inl (M.1 a i2) :: st) G M cb sb) := h
        obtain ⟨k, a, st, t, nn, rfl, hG, ht, h0, h1, u1⟩ := mj_ald_e h
        have hn := hnx.resolve_left Bool.false_ne_true
        have g := ih (i + 1) _ _ _ _ _ _ u1
        rw [hn] at g
        exact mj_o_iaload X hdec hG ht h0 h1 g
      case laload =>
        have h : mj_ald 3 st G (fun a i2 st => mj_x (fun y => (T y).2.2.2.2.2.2) C full Q (fun rest L st G M cb sb => ∀ i, rest = full.drop i → mj_J X (mj_pc full i) L st G M cb sb) 0 (full.drop (i + 1)) L (.inr (.inl (M.2.1 a i2)) :: st) G M cb sb) := h
        obtain ⟨k, a, st, t, nn, rfl, hG, ht, h0, h1, u1⟩ := mj_ald_e h
        have hn := hnx.resolve_left Bool.false_ne_true
        have g := ih (i + 1) _ _ _ _ _ _ u1
        rw [hn] at g
        exact mj_o_laload X hdec hG ht h0 h1 g
      case baload =>
        have h : mj_bald st G (fun a i2 st => mj_x (fun y => (T y).2.2.2.2.2.2) C full Q (fun rest L st G M cb sb => ∀ i, rest = full.drop i → mj_J X (mj_pc full i) L st G M cb sb) 0 (full.drop (i + 1)) L (.inl (M.1 a i2) :: st) G M cb sb) := h
        have hn := hnx.resolve_left Bool.false_ne_true
        rcases h with h | h
        · obtain ⟨k, a, st, t, nn, rfl, hG, ht, h0, h1, u1⟩ := mj_ald_e h
          have g := ih (i + 1) _ _ _ _ _ _ u1
          rw [hn] at g
          exact mj_o_baload X hdec hG ht h0 h1 g
        · obtain ⟨k, a, st, t, nn, rfl, hG, ht, h0, h1, u2⟩ := mj_ald_e h
          have g := ih (i + 1) _ _ _ _ _ _ u2
          rw [hn] at g
          exact mj_o_zaload X hdec hG ht h0 h1 g
      case aaload =>
        have h : mj_ald (mj_hd aux) st G (fun a i2 st => mj_rf (M.2.2 a i2) fun v => mj_x (fun y => (T y).2.2.2.2.2.2) C full Q (fun rest L st G M cb sb => ∀ i, rest = full.drop i → mj_J X (mj_pc full i) L st G M cb sb) 0 (full.drop (i + 1)) L (v :: st) G M cb sb) := h
        obtain ⟨k, a, st, t, nn, rfl, hG, ht, h0, h1, u1⟩ := mj_ald_e h
        have hn := hnx.resolve_left Bool.false_ne_true
        simp only [mj_cx, Bool.and_eq_true, decide_eq_true_eq] at hcx
        refine mj_o_aaload X hdec hG ht hcx.1.1 hcx.1.2 hcx.2 h0 h1 ⟨fun b hb => ?_, fun hb => ?_⟩
        · have g := ih (i + 1) _ _ _ _ _ _ (u1.1 b hb)
          rw [hn] at g
          exact g
        · have g := ih (i + 1) _ _ _ _ _ _ (u1.2 hb)
          rw [hn] at g
          exact g
      case iastore =>
        have h : mj_i1 st (fun z st => mj_aldw 0 st G fun a i2 st => mj_x (fun y => (T y).2.2.2.2.2.2) C full Q (fun rest L st G M cb sb => ∀ i, rest = full.drop i → mj_J X (mj_pc full i) L st G M cb sb) 0 (full.drop (i + 1)) L st G (mj_p0 M a i2 z) cb sb) := h
        obtain ⟨z, st, rfl, u1⟩ := mj_i1_e h
        obtain ⟨k, a, st, t, nn, rfl, hG, ht, h9, h0, h1, u2⟩ := mj_aldw_e u1
        have hn := hnx.resolve_left Bool.false_ne_true
        have g := ih (i + 1) _ _ _ _ _ _ u2
        rw [hn] at g
        exact mj_o_iastore X hdec hG ht h9 h0 h1 g
      case lastore =>
        have h : mj_l1 st (fun z st => mj_aldw 3 st G fun a i2 st => mj_x (fun y => (T y).2.2.2.2.2.2) C full Q (fun rest L st G M cb sb => ∀ i, rest = full.drop i → mj_J X (mj_pc full i) L st G M cb sb) 0 (full.drop (i + 1)) L st G (mj_p1 M a i2 z) cb sb) := h
        obtain ⟨z, st, rfl, u1⟩ := mj_l1_e h
        obtain ⟨k, a, st, t, nn, rfl, hG, ht, h9, h0, h1, u2⟩ := mj_aldw_e u1
        have hn := hnx.resolve_left Bool.false_ne_true
        have g := ih (i + 1) _ _ _ _ _ _ u2
        rw [hn] at g
        exact mj_o_lastore X hdec hG ht h9 h0 h1 g
      case bastore =>
        have h : mj_i1 st (fun z st => (mj_aldw 1 st G fun a i2 st => mj_x (fun y => (T y).2.2.2.2.2.2) C full Q (fun rest L st G M cb sb => ∀ i, rest = full.drop i → mj_J X (mj_pc full i) L st G M cb sb) 0 (full.drop (i + 1)) L st G (mj_p0 M a i2 (mj_nb z)) cb sb) ∨ ((z = 0 ∨ z = 1) ∧ mj_aldw 2 st G fun a i2 st => mj_x (fun y => (T y).2.2.2.2.2.2) C full Q (fun rest L st G M cb sb => ∀ i, rest = full.drop i → mj_J X (mj_pc full i) L st G M cb sb) 0 (full.drop (i + 1)) L st G (mj_p0 M a i2 z) cb sb)) := h
        obtain ⟨z, st, rfl, u1⟩ := mj_i1_e h
        have hn := hnx.resolve_left Bool.false_ne_true
        rcases u1 with h | ⟨hz, h⟩
        · obtain ⟨k, a, st, t, nn, rfl, hG, ht, h9, h0, h1, u2⟩ := mj_aldw_e h
          have g := ih (i + 1) _ _ _ _ _ _ u2
          rw [hn] at g
          exact mj_o_bastore X hdec hG ht h9 h0 h1 g
        · obtain ⟨k, a, st, t, nn, rfl, hG, ht, h9, h0, h1, u3⟩ := mj_aldw_e h
          have g := ih (i + 1) _ _ _ _ _ _ u3
          rw [hn] at g
          exact mj_o_zastore X hdec hG ht hz h9 h0 h1 g
      case arraylength =>
        have h : mj_a1 st (fun a st => ∃ t k j, G a = (t, k) ∧ t % 1000 = 100 + j ∧ j < 7 ∧ mj_in k ∧ mj_x (fun y => (T y).2.2.2.2.2.2) C full Q (fun rest L st G M cb sb => ∀ i, rest = full.drop i → mj_J X (mj_pc full i) L st G M cb sb) 0 (full.drop (i + 1)) L (.inl (k : Int) :: st) G M cb sb) := h
        obtain ⟨a, st, rfl, t, k, j, hG, ht, hj, hk, u1⟩ := mj_a1_e h
        have hn := hnx.resolve_left Bool.false_ne_true
        have g := ih (i + 1) _ _ _ _ _ _ u1
        rw [hn] at g
        exact mj_o_alen X hdec hG ht hj hk g
      case newarray aty =>
        have h : mj_i1 st (fun z st => 0 ≤ z ∧ z ≤ 100000 ∧ 1 ≤ cb ∧ z.toNat ≤ sb ∧ ∃ t, t % 1000 = 100 + mj_hd aux ∧ mj_new G M t z.toNat fun a G M => mj_x (fun y => (T y).2.2.2.2.2.2) C full Q (fun rest L st G M cb sb => ∀ i, rest = full.drop i → mj_J X (mj_pc full i) L st G M cb sb) 0 (full.drop (i + 1)) L (.inr (.inr (some a)) :: st) G M (cb - 1) (sb - z.toNat)) := h
        obtain ⟨z, st, rfl, h0, h9, h1, h2, t, ht, u1⟩ := mj_i1_e h
        have hn := hnx.resolve_left Bool.false_ne_true
        simp only [mj_cx, Bool.and_eq_true, decide_eq_true_eq] at hcx
        refine mj_o_newarray X hdec hcx.1.1 hcx.1.2 (mj_win hcx.2) ht h0 h9 h1 h2 (fun a ha => ?_)
        have g := ih (i + 1) _ _ _ _ _ _ (u1 a ha)
        rw [hn] at g
        exact g
      case multianewarray k dm =>
        have h : mj_i1 st (fun z st => mj_i1 st fun y st => 0 ≤ z ∧ z ≤ 1000 ∧ 0 ≤ y ∧ y ≤ 1000 ∧ 1 + y.toNat ≤ cb ∧ y.toNat + y.toNat * z.toNat ≤ sb ∧ ∃ t t2, t % 1000 = 104 ∧ t2 % 1000 = 100 ∧ ∀ a, (∀ x, a ≤ x → G x = (0, 0)) → mj_x (fun y => (T y).2.2.2.2.2.2) C full Q (fun rest L st G M cb sb => ∀ i, rest = full.drop i → mj_J X (mj_pc full i) L st G M cb sb) 0 (full.drop (i + 1)) L (.inr (.inr (some a)) :: st) (mj_gg G a t y.toNat t2 z.toNat) (mj_zz M a y.toNat) (cb - (1 + y.toNat)) (sb - (y.toNat + y.toNat * z.toNat))) := h
        obtain ⟨z, st, rfl, u1⟩ := mj_i1_e h
        obtain ⟨y, st, rfl, h0, h9, y0, y9, h1, h2, t, t2, ht, ht2, u2⟩ := mj_i1_e u1
        have hn := hnx.resolve_left Bool.false_ne_true
        simp only [mj_cx, Bool.and_eq_true, decide_eq_true_eq] at hcx
        obtain ⟨rfl, hcl⟩ := hcx
        refine mj_o_mna X hdec (mj_win hcl) hw3 ht ht2 h0 h9 y0 y9 h1 h2 (fun a ha => ?_)
        have g := ih (i + 1) _ _ _ _ _ _ (u2 a ha)
        rw [hn] at g
        exact g
      case new k =>
        have h0 : aux ≠ [] ∧ 1 ≤ cb ∧ mj_h1 aux ≤ sb ∧ ∃ t, t % 1000 = mj_hd aux + 1 ∧ mj_new G M t 0 fun a G M => mj_x (fun y => (T y).2.2.2.2.2.2) C full Q (fun rest L st G M cb sb => ∀ i, rest = full.drop i → mj_J X (mj_pc full i) L st G M cb sb) 0 (full.drop (i + 1)) L (.inr (.inr (some a)) :: st) G M (cb - 1) (sb - mj_h1 aux) := h
        obtain ⟨h1, h2, t, ht, u1⟩ := h0.2
        have hcx := mj_em h0.1 hcx
        have hn := hnx.resolve_left Bool.false_ne_true
        simp only [Bool.and_eq_true, decide_eq_true_eq] at hcx
        obtain ⟨⟨⟨c1, c2⟩, c3⟩, c4⟩ := hcx
        rw [mj_cls_lt c1] at c2 c3 c4
        have hr := mj_vw c1
        refine mj_o_new X hdec hr (mj_layA _ _ hr) (mj_tyA _ _ hr) (fun k hk => mj_tc_nf (mj_tcA _ _ hr k hk)) (mj_win c2) (mj_win c3) (mj_win c4) ht h1 h2 (fun a ha => ?_)
        have g := ih (i + 1) _ _ _ _ _ _ (u1 a ha)
        rw [hn] at g
        exact g
      case invokevirtual k =>
        have h0 : aux ≠ [] ∧ mj_pop (mj_h1 aux) [] st (fun As st => mj_a1 st fun a st => mj_is G a (mj_h2 aux + 1) fun _ _ => mj_cat st ≤ 8 ∧ (T (mj_hd aux)).2.2.2.2.2.2.1 ≤ cb ∧ (T (mj_hd aux)).2.2.2.2.2.2.2 ≤ sb ∧ C (mj_hd aux) (.inr (.inr (some a)) :: As) G M fun r G M => mj_x (fun y => (T y).2.2.2.2.2.2) C full Q (fun rest L st G M cb sb => ∀ i, rest = full.drop i → mj_J X (mj_pc full i) L st G M cb sb) 0 (full.drop (i + 1)) L (mj_ret r st) G M (cb - (T (mj_hd aux)).2.2.2.2.2.2.1) (sb - (T (mj_hd aux)).2.2.2.2.2.2.2)) := h
        have h := h0.2
        have hcx := mj_em h0.1 hcx
        obtain ⟨As, st, rfl, hAs, u1⟩ := mj_pop_e _ _ _ _ h
        rw [List.append_nil] at u1
        obtain ⟨a, st, rfl, t, nn, hG, ht, h8, h1, h2, u2⟩ := mj_a1_e u1
        have hn := hnx.resolve_left Bool.false_ne_true
        simp only [Bool.and_eq_true, decide_eq_true_eq] at hcx
        obtain ⟨⟨c1, c2⟩, c3⟩ := hcx
        have hm := hT (mj_hd aux)
        unfold mj_cm at hm
        rw [c1] at hm
        simp only [Bool.and_eq_true, decide_eq_true_eq] at hm
        obtain ⟨⟨⟨⟨⟨⟨⟨m1, m2⟩, m3⟩, m4⟩, m5⟩, m6⟩, m7⟩, ⟨m8, m9⟩, m10⟩ := hm
        rcases c2 with c2 | c2
        rotate_left
        · rw [c2] at m8 ht
          have m8 : (T (mj_hd aux)).1.cls = RX9 := m8
          refine mj_o_callW (d := d) X hdec (hC _ _ _ _ _ u2) ⟨hR.1, by have := hR.2; omega⟩ m8 ⟨m3, m4, m5⟩ hAs (mj_win c3) m9 (by rw [← m8]; exact m10) (by rw [← m8]; exact m2) m1 hG ht h8 h1 h2 (fun r G M hq => ?_)
          have g := ih (i + 1) _ _ _ _ _ _ hq
          rw [hn] at g
          exact g
        have hr := mj_vw c2
        have hb49 : Nat.beq (mj_h2 aux) 49 = false := by cases hq : Nat.beq (mj_h2 aux) 49 with
          | true => exact absurd (Nat.eq_of_beq_eq_true hq) (by omega)
          | false => rfl
        unfold mj_cls at m8
        rw [hb49] at m8
        have hcl : (T (mj_hd aux)).1.cls = (vwCl.getD (mj_h2 aux) (RX0, TX0, 0)).1 := m8
        refine mj_o_callV (d := d) X hdec (hC _ _ _ _ _ u2) ⟨hR.1, by have := hR.2; omega⟩ hr hcl ⟨m3, m4, m5⟩ hAs (mj_win c3) m9 (by rw [← hcl]; exact m10) (by rw [← hcl]; exact m2) m1 hG ht h8 h1 h2 (fun r G M hq => ?_)
        have g := ih (i + 1) _ _ _ _ _ _ hq
        rw [hn] at g
        exact g
      case invokestatic k =>
        cases aux with
        | nil => exact absurd rfl (show ([] : List Nat) ≠ [] from (show ([] : List Nat) ≠ [] ∧ _ from h).1)
        | cons y0 aux =>
          cases aux with
          | nil =>
            have h0 : [y0] ≠ [] ∧ mj_pop (mj_h1 [y0]) [] st (fun As st => mj_cat st ≤ 8 ∧ (T (mj_hd [y0])).2.2.2.2.2.2.1 ≤ cb ∧ (T (mj_hd [y0])).2.2.2.2.2.2.2 ≤ sb ∧ C (mj_hd [y0]) As G M fun r G M => mj_x (fun y => (T y).2.2.2.2.2.2) C full Q (fun rest L st G M cb sb => ∀ i, rest = full.drop i → mj_J X (mj_pc full i) L st G M cb sb) 0 (full.drop (i + 1)) L (mj_ret r st) G M (cb - (T (mj_hd [y0])).2.2.2.2.2.2.1) (sb - (T (mj_hd [y0])).2.2.2.2.2.2.2)) := h
            have h := h0.2
            obtain ⟨As, st, rfl, hAs, u1⟩ := mj_pop_e _ _ _ _ h
            rw [List.append_nil] at u1
            obtain ⟨h8, h1, h2, u2⟩ := u1
            have hn := hnx.resolve_left Bool.false_ne_true
            simp only [mj_cx, Bool.and_eq_true, decide_eq_true_eq] at hcx
            obtain ⟨⟨c1, c2⟩, c3⟩ := hcx
            have hm := hT (mj_hd [y0])
            unfold mj_cm at hm
            rw [c1, c2] at hm
            simp only [Bool.and_eq_true, decide_eq_true_eq] at hm
            obtain ⟨⟨⟨⟨⟨⟨⟨m1, m2⟩, m3⟩, m4⟩, m5⟩, m6⟩, m7⟩, m8⟩ := hm
            refine mj_o_callS (d := d) X hdec (hC _ _ _ _ _ u2) ⟨hR.1, by have := hR.2; omega⟩ ⟨m3, m4, m5⟩ hAs (mj_win c3) m8 m2 m1 h8 h1 h2 (fun r G M hq => ?_)
            have g := ih (i + 1) _ _ _ _ _ _ hq
            rw [hn] at g
            exact g
          | cons y1 aux =>
            cases aux with
            | cons y2 aux =>
              have h0 : (y0 :: y1 :: y2 :: aux) ≠ [] ∧ mj_pop (mj_h1 (y0 :: y1 :: y2 :: aux)) [] st (fun As st => mj_cat st ≤ 8 ∧ (T (mj_hd (y0 :: y1 :: y2 :: aux))).2.2.2.2.2.2.1 ≤ cb ∧ (T (mj_hd (y0 :: y1 :: y2 :: aux))).2.2.2.2.2.2.2 ≤ sb ∧ C (mj_hd (y0 :: y1 :: y2 :: aux)) As G M fun r G M => mj_x (fun y => (T y).2.2.2.2.2.2) C full Q (fun rest L st G M cb sb => ∀ i, rest = full.drop i → mj_J X (mj_pc full i) L st G M cb sb) 0 (full.drop (i + 1)) L (mj_ret r st) G M (cb - (T (mj_hd (y0 :: y1 :: y2 :: aux))).2.2.2.2.2.2.1) (sb - (T (mj_hd (y0 :: y1 :: y2 :: aux))).2.2.2.2.2.2.2)) := h
              have h := h0.2
              obtain ⟨As, st, rfl, hAs, u1⟩ := mj_pop_e _ _ _ _ h
              rw [List.append_nil] at u1
              obtain ⟨h8, h1, h2, u2⟩ := u1
              have hn := hnx.resolve_left Bool.false_ne_true
              simp only [mj_cx, Bool.and_eq_true, decide_eq_true_eq] at hcx
              obtain ⟨⟨c1, c2⟩, c3⟩ := hcx
              have hm := hT (mj_hd (y0 :: y1 :: y2 :: aux))
              unfold mj_cm at hm
              rw [c1, c2] at hm
              simp only [Bool.and_eq_true, decide_eq_true_eq] at hm
              obtain ⟨⟨⟨⟨⟨⟨⟨m1, m2⟩, m3⟩, m4⟩, m5⟩, m6⟩, m7⟩, m8⟩ := hm
              refine mj_o_callS (d := d) X hdec (hC _ _ _ _ _ u2) ⟨hR.1, by have := hR.2; omega⟩ ⟨m3, m4, m5⟩ hAs (mj_win c3) m8 m2 m1 h8 h1 h2 (fun r G M hq => ?_)
              have g := ih (i + 1) _ _ _ _ _ _ hq
              rw [hn] at g
              exact g
            | nil =>
            have hn := hnx.resolve_left Bool.false_ne_true
            match y0, h, hcx with
            | 0, h, hcx =>
              have h : mj_i1 st fun y st => mj_i1 st fun x st => mj_cat st ≤ 8 ∧ ∀ z, (x < y → z = y) → (¬ x < y → z = x) → mj_x (fun y => (T y).2.2.2.2.2.2) C full Q (fun rest L st G M cb sb => ∀ i, rest = full.drop i → mj_J X (mj_pc full i) L st G M cb sb) 0 (full.drop (i + 1)) L (.inl z :: st) G M cb sb := h
              obtain ⟨y, st, rfl, u1⟩ := mj_i1_e h
              obtain ⟨x, st, rfl, h8, u2⟩ := mj_i1_e u1
              refine mj_o_max X hdec (mj_win (of_decide_eq_true hcx)) hlw.1.1 hlw.2.2.2.1 hlw.1.2 h8 (fun z z1 z2 => ?_)
              have g := ih (i + 1) _ _ _ _ _ _ (u2 z z1 z2)
              rw [hn] at g
              exact g
            | 1, h, hcx =>
              have h : mj_i1 st fun y st => mj_i1 st fun x st => mj_cat st ≤ 8 ∧ ∀ z, (y < x → z = y) → (¬ y < x → z = x) → mj_x (fun y => (T y).2.2.2.2.2.2) C full Q (fun rest L st G M cb sb => ∀ i, rest = full.drop i → mj_J X (mj_pc full i) L st G M cb sb) 0 (full.drop (i + 1)) L (.inl z :: st) G M cb sb := h
              obtain ⟨y, st, rfl, u1⟩ := mj_i1_e h
              obtain ⟨x, st, rfl, h8, u2⟩ := mj_i1_e u1
              refine mj_o_min X hdec (mj_win (of_decide_eq_true hcx)) hlw.2.1.1 hlw.2.2.2.1 hlw.2.1.2 h8 (fun z z1 z2 => ?_)
              have g := ih (i + 1) _ _ _ _ _ _ (u2 z z1 z2)
              rw [hn] at g
              exact g
            | 2, h, hcx =>
              have h : mj_i1 st fun x st => mj_cat st ≤ 8 ∧ ∀ z, mj_in z → (0 ≤ x → z = x) → (x < 0 → x ≠ -2147483648 → z = -x) → mj_x (fun y => (T y).2.2.2.2.2.2) C full Q (fun rest L st G M cb sb => ∀ i, rest = full.drop i → mj_J X (mj_pc full i) L st G M cb sb) 0 (full.drop (i + 1)) L (.inl z :: st) G M cb sb := h
              obtain ⟨x, st, rfl, h8, u2⟩ := mj_i1_e h
              refine mj_o_abs X hdec (mj_win (of_decide_eq_true hcx)) hlw.2.2.1.1 hlw.2.2.2.1 hlw.2.2.1.2 h8 (fun z z0 z1 z2 => ?_)
              have g := ih (i + 1) _ _ _ _ _ _ (u2 z z0 z1 z2)
              rw [hn] at g
              exact g
            | 3, h, hcx =>
              have h : mj_cpy 0 st G (fun a b sp dp n2 st => mj_x (fun y => (T y).2.2.2.2.2.2) C full Q (fun rest L st G M cb sb => ∀ i, rest = full.drop i → mj_J X (mj_pc full i) L st G M cb sb) 0 (full.drop (i + 1)) L st G (mj_cp0 M a b sp dp n2) cb sb) := h
              obtain ⟨nn, st, rfl, u1⟩ := mj_i1_e h
              obtain ⟨dp, st, rfl, u2⟩ := mj_i1_e u1
              obtain ⟨b, st, rfl, u3⟩ := mj_a1_e u2
              obtain ⟨sp, st, rfl, u4⟩ := mj_i1_e u3
              obtain ⟨a, st, rfl, ta, na, hGa, hta, tb, nb, hGb, htb, h9, h1, h2, h3, h4, h5, h8, u5⟩ := mj_a1_e u4
              have g := ih (i + 1) _ _ _ _ _ _ u5
              rw [hn] at g
              exact mj_o_copy0 X hdec (mj_win (of_decide_eq_true hcx)) hlw.2.2.2.2.1 hlw.2.2.2.2.2.1 hlw.2.2.2.2.2.2 h8 hGa hta hGb htb h9 h1 h2 h3 h4 h5 g
            | 4, h, hcx =>
              have h : mj_cpy 3 st G (fun a b sp dp n2 st => mj_x (fun y => (T y).2.2.2.2.2.2) C full Q (fun rest L st G M cb sb => ∀ i, rest = full.drop i → mj_J X (mj_pc full i) L st G M cb sb) 0 (full.drop (i + 1)) L st G (mj_cp1 M a b sp dp n2) cb sb) := h
              obtain ⟨nn, st, rfl, u1⟩ := mj_i1_e h
              obtain ⟨dp, st, rfl, u2⟩ := mj_i1_e u1
              obtain ⟨b, st, rfl, u3⟩ := mj_a1_e u2
              obtain ⟨sp, st, rfl, u4⟩ := mj_i1_e u3
              obtain ⟨a, st, rfl, ta, na, hGa, hta, tb, nb, hGb, htb, h9, h1, h2, h3, h4, h5, h8, u5⟩ := mj_a1_e u4
              have g := ih (i + 1) _ _ _ _ _ _ u5
              rw [hn] at g
              exact mj_o_copy1 X hdec (mj_win (of_decide_eq_true hcx)) hlw.2.2.2.2.1 hlw.2.2.2.2.2.1 hlw.2.2.2.2.2.2 h8 hGa hta hGb htb h9 h1 h2 h3 h4 h5 g
            | f + 5, h, hcx => exact False.elim h
      case anewarray k =>
        have h : mj_i1 st (fun z st => 0 ≤ z ∧ z ≤ 100000 ∧ 1 ≤ cb ∧ z.toNat ≤ sb ∧ ∃ t, t % 1000 = 100 + mj_hd aux ∧ mj_new G M t z.toNat fun a G M => mj_x (fun y => (T y).2.2.2.2.2.2) C full Q (fun rest L st G M cb sb => ∀ i, rest = full.drop i → mj_J X (mj_pc full i) L st G M cb sb) 0 (full.drop (i + 1)) L (.inr (.inr (some a)) :: st) G M (cb - 1) (sb - z.toNat)) := h
        obtain ⟨z, st, rfl, h0, h9, h1, h2, t, ht, u1⟩ := mj_i1_e h
        have hn := hnx.resolve_left Bool.false_ne_true
        simp only [mj_cx, Bool.and_eq_true, decide_eq_true_eq] at hcx
        refine mj_o_anew X hdec hcx.1 (mj_win hcx.2) ht h0 h9 h1 h2 (fun a ha => ?_)
        have g := ih (i + 1) _ _ _ _ _ _ (u1 a ha)
        rw [hn] at g
        exact g
      case aastore =>
        have h : mj_r1 st (fun z st => mj_aldw (mj_hd aux) st G fun a i2 st => (∀ b, z = some b → (mj_hd aux = 6 ∧ mj_is G b 7 fun _ _ => True) ∨ (mj_hd aux = 5 ∧ mj_is G b 50 fun _ _ => True)) ∧ mj_x (fun y => (T y).2.2.2.2.2.2) C full Q (fun rest L st G M cb sb => ∀ i, rest = full.drop i → mj_J X (mj_pc full i) L st G M cb sb) 0 (full.drop (i + 1)) L st G (mj_p2 M a i2 z) cb sb) := h
        obtain ⟨z, st, rfl, u1⟩ := mj_r1_e h
        obtain ⟨k, a, st, t, nn, rfl, hG, ht, h9, h0, h1, hb, u2⟩ := mj_aldw_e u1
        have hn := hnx.resolve_left Bool.false_ne_true
        have g := ih (i + 1) _ _ _ _ _ _ u2
        rw [hn] at g
        exact mj_o_aastore X hdec (of_decide_eq_true hcx) hG ht h9 h0 h1 (fun b q => (hb b q).imp (fun v => ⟨v.1, by obtain ⟨t', n', w1, w2, -⟩ := v.2; exact ⟨t', n', w1, w2⟩⟩) (fun v => ⟨v.1, by obtain ⟨t', n', w1, w2, -⟩ := v.2; exact ⟨t', n', w1, w2⟩⟩)) g
      case tableswitch df lo hi offs =>
        have h : mj_i1 st (fun z st => (z < lo ∨ hi < z → mj_x (fun y => (T y).2.2.2.2.2.2) C full Q (fun rest L st G M cb sb => ∀ i, rest = full.drop i → mj_J X (mj_pc full i) L st G M cb sb) 0 (full.drop (mj_hd aux)) L st G M cb sb) ∧ mj_sw z (fun t => mj_x (fun y => (T y).2.2.2.2.2.2) C full Q (fun rest L st G M cb sb => ∀ i, rest = full.drop i → mj_J X (mj_pc full i) L st G M cb sb) 0 (full.drop t) L st G M cb sb) lo (aux.drop 1)) := h
        obtain ⟨z, st, rfl, h1, h2⟩ := mj_i1_e h
        simp only [mj_cx, Bool.and_eq_true, decide_eq_true_eq] at hcx
        obtain ⟨⟨c1, c2⟩, c3⟩ := hcx
        refine mj_o_switch X (pcs := mj_pc full) hdec c1 c2 (fun k t hk => ?_) (fun q => ih (mj_hd aux) _ _ _ _ _ _ (h1 q)) (fun k t hk hz => ih t _ _ _ _ _ _ (mj_sw_e _ _ h2 k t hk hz))
        obtain ⟨o, o1, o2⟩ := mj_ct_at _ _ c3 k t hk
        exact ⟨o, by rw [← Array.getElem?_toList]; exact o1, o2⟩
      case invokespecial k =>
        cases aux with
        | nil =>
          have h : mj_a1 st (fun _ st => mj_cat st ≤ 8 ∧ mj_x (fun y => (T y).2.2.2.2.2.2) C full Q (fun rest L st G M cb sb => ∀ i, rest = full.drop i → mj_J X (mj_pc full i) L st G M cb sb) 0 (full.drop (i + 1)) L st G M cb sb) := h
          obtain ⟨a, st, rfl, h8, u1⟩ := mj_a1_e h
          have hn := hnx.resolve_left Bool.false_ne_true
          have g := ih (i + 1) _ _ _ _ _ _ u1
          rw [hn] at g
          exact mj_o_objInit X hdec (mj_win (of_decide_eq_true hcx)) ho2 ho3 h8 g
        | cons y aux =>
          have h : mj_pop (mj_h1 (y :: aux)) [] st (fun As st => mj_a1 st fun a st => mj_is G a (mj_h2 (y :: aux) + 1) fun _ _ => mj_cat st ≤ 8 ∧ (T y).2.2.2.2.2.2.1 ≤ cb ∧ (T y).2.2.2.2.2.2.2 ≤ sb ∧ C y (.inr (.inr (some a)) :: As) G M fun r G M => mj_x (fun y => (T y).2.2.2.2.2.2) C full Q (fun rest L st G M cb sb => ∀ i, rest = full.drop i → mj_J X (mj_pc full i) L st G M cb sb) 0 (full.drop (i + 1)) L (mj_ret r st) G M (cb - (T y).2.2.2.2.2.2.1) (sb - (T y).2.2.2.2.2.2.2)) := h
          obtain ⟨As, st, rfl, hAs, u2⟩ := mj_pop_e _ _ _ _ h
          rw [List.append_nil] at u2
          obtain ⟨a, st, rfl, t, nn, hG, ht, h8, h1, h2, u3⟩ := mj_a1_e u2
          have hn := hnx.resolve_left Bool.false_ne_true
          simp only [mj_cx, Bool.and_eq_true, decide_eq_true_eq] at hcx
          obtain ⟨c1, c3⟩ := hcx
          have hm := hT y
          unfold mj_cm at hm
          rw [c1] at hm
          simp only [Bool.and_eq_true, decide_eq_true_eq] at hm
          obtain ⟨⟨⟨⟨⟨⟨⟨m1, m2⟩, m3⟩, m4⟩, m5⟩, m6⟩, m7⟩, ⟨⟨m8, m9⟩, m10⟩, m11⟩ := hm
          have hq0 := hC _ _ _ _ _ u3
          unfold mj_Mt at hq0
          rw [m11] at hq0 m1
          refine mj_o_callI (d := d) X hdec hq0 ⟨hR.1, by have := hR.2; omega⟩ m10 ⟨m3, m4, m5⟩ hAs (mj_win c3) m9 m2 m1 h8 h1 h2 (fun r G M hq => ?_)
          have g := ih (i + 1) _ _ _ _ _ _ hq
          rw [hn] at g
          exact g
      case ireturn =>
        have h : mj_i1 st (fun z st => st = [] ∧ (imm = 1 → z = 0 ∨ z = 1) ∧ Q (some (.inl z)) G M) := h
        obtain ⟨z, st, rfl, rfl, h1, h2⟩ := mj_i1_e h
        have hc2 := of_decide_eq_true hcx
        exact mj_o_ireturn X hdec (hc2.imp (fun q => q.2) (fun q => ⟨q.2, h1 q.1⟩)) h2
      case return_ =>
        have h : st = [] ∧ Q none G M := h
        obtain ⟨rfl, h2⟩ := h
        exact mj_o_return X hdec (of_decide_eq_true hcx) h2
      case idiv =>
        have h : mj_dv st (fun x y => x / y) (fun st => mj_x (fun y => (T y).2.2.2.2.2.2) C full Q (fun rest L st G M cb sb => ∀ i, rest = full.drop i → mj_J X (mj_pc full i) L st G M cb sb) 0 (full.drop (i + 1)) L st G M cb sb) := h
        obtain ⟨y, st, rfl, u1⟩ := mj_i1_e h
        obtain ⟨x, st, rfl, h0, u2⟩ := mj_i1_e u1
        have hn := hnx.resolve_left Bool.false_ne_true
        refine mj_o_idiv X hdec h0 (fun z hz hz2 => ?_)
        have g := ih (i + 1) _ _ _ _ _ _ (u2 z hz hz2)
        rw [hn] at g
        exact g
      case irem =>
        have h : mj_dv st (fun x y => x - x / y * y) (fun st => mj_x (fun y => (T y).2.2.2.2.2.2) C full Q (fun rest L st G M cb sb => ∀ i, rest = full.drop i → mj_J X (mj_pc full i) L st G M cb sb) 0 (full.drop (i + 1)) L st G M cb sb) := h
        obtain ⟨y, st, rfl, u1⟩ := mj_i1_e h
        obtain ⟨x, st, rfl, h0, u2⟩ := mj_i1_e u1
        have hn := hnx.resolve_left Bool.false_ne_true
        refine mj_o_irem X hdec h0 (fun z hz hz2 => ?_)
        have g := ih (i + 1) _ _ _ _ _ _ (u2 z hz hz2)
        rw [hn] at g
        exact g
      case lor =>
        have h : mj_ll st (fun x y => x ||| y) (fun st => mj_x (fun y => (T y).2.2.2.2.2.2) C full Q (fun rest L st G M cb sb => ∀ i, rest = full.drop i → mj_J X (mj_pc full i) L st G M cb sb) 0 (full.drop (i + 1)) L st G M cb sb) := h
        obtain ⟨y, st, rfl, u1⟩ := mj_l1_e h
        obtain ⟨x, st, rfl, u2⟩ := mj_l1_e u1
        have hn := hnx.resolve_left Bool.false_ne_true
        have g := ih (i + 1) _ _ _ _ _ _ u2
        rw [hn] at g
        exact mj_o_lor X hdec g
      case land =>
        have h : mj_ll st (fun x y => x &&& y) (fun st => mj_x (fun y => (T y).2.2.2.2.2.2) C full Q (fun rest L st G M cb sb => ∀ i, rest = full.drop i → mj_J X (mj_pc full i) L st G M cb sb) 0 (full.drop (i + 1)) L st G M cb sb) := h
        obtain ⟨y, st, rfl, u1⟩ := mj_l1_e h
        obtain ⟨x, st, rfl, u2⟩ := mj_l1_e u1
        have hn := hnx.resolve_left Bool.false_ne_true
        have g := ih (i + 1) _ _ _ _ _ _ u2
        rw [hn] at g
        exact mj_o_land X hdec g
      case lshl =>
        have h : mj_ls st (fun x y => x <<< y) (fun st => mj_x (fun y => (T y).2.2.2.2.2.2) C full Q (fun rest L st G M cb sb => ∀ i, rest = full.drop i → mj_J X (mj_pc full i) L st G M cb sb) 0 (full.drop (i + 1)) L st G M cb sb) := h
        obtain ⟨y, st, rfl, u1⟩ := mj_i1_e h
        obtain ⟨x, st, rfl, u2⟩ := mj_l1_e u1
        have hn := hnx.resolve_left Bool.false_ne_true
        have g := ih (i + 1) _ _ _ _ _ _ u2
        rw [hn] at g
        exact mj_o_lshl X hdec g
      case lshr =>
        have h : mj_ls st (fun x y => x >>> y) (fun st => mj_x (fun y => (T y).2.2.2.2.2.2) C full Q (fun rest L st G M cb sb => ∀ i, rest = full.drop i → mj_J X (mj_pc full i) L st G M cb sb) 0 (full.drop (i + 1)) L st G M cb sb) := h
        obtain ⟨y, st, rfl, u1⟩ := mj_i1_e h
        obtain ⟨x, st, rfl, u2⟩ := mj_l1_e u1
        have hn := hnx.resolve_left Bool.false_ne_true
        have g := ih (i + 1) _ _ _ _ _ _ u2
        rw [hn] at g
        exact mj_o_lshr X hdec g
      case lcmp =>
        have h : mj_l1 st (fun y st => mj_l1 st fun x st => ∀ z, mj_in z → z = (lg_cmp x y).toInt → mj_x (fun y => (T y).2.2.2.2.2.2) C full Q (fun rest L st G M cb sb => ∀ i, rest = full.drop i → mj_J X (mj_pc full i) L st G M cb sb) 0 (full.drop (i + 1)) L (.inl z :: st) G M cb sb) := h
        obtain ⟨y, st, rfl, u1⟩ := mj_l1_e h
        obtain ⟨x, st, rfl, u2⟩ := mj_l1_e u1
        have hn := hnx.resolve_left Bool.false_ne_true
        refine mj_o_lcmp X hdec (fun z hz hz2 => ?_)
        have g := ih (i + 1) _ _ _ _ _ _ (u2 z hz hz2)
        rw [hn] at g
        exact g
      case i2l =>
        have h : mj_i1 st (fun z st => mj_x (fun y => (T y).2.2.2.2.2.2) C full Q (fun rest L st G M cb sb => ∀ i, rest = full.drop i → mj_J X (mj_pc full i) L st G M cb sb) 0 (full.drop (i + 1)) L (.inr (.inl (Int32.ofInt z).toInt64) :: st) G M cb sb) := h
        obtain ⟨x, st, rfl, u1⟩ := mj_i1_e h
        have hn := hnx.resolve_left Bool.false_ne_true
        have g := ih (i + 1) _ _ _ _ _ _ u1
        rw [hn] at g
        exact mj_o_i2l X hdec g
      case l2i =>
        have h : mj_l1 st (fun w st => ∀ z, mj_in z → z = w.toInt32.toInt → mj_x (fun y => (T y).2.2.2.2.2.2) C full Q (fun rest L st G M cb sb => ∀ i, rest = full.drop i → mj_J X (mj_pc full i) L st G M cb sb) 0 (full.drop (i + 1)) L (.inl z :: st) G M cb sb) := h
        obtain ⟨x, st, rfl, u1⟩ := mj_l1_e h
        have hn := hnx.resolve_left Bool.false_ne_true
        refine mj_o_l2i X hdec (fun z hz hz2 => ?_)
        have g := ih (i + 1) _ _ _ _ _ _ (u1 z hz hz2)
        rw [hn] at g
        exact g
      case ldc_w k =>
        have h : mj_x (fun y => (T y).2.2.2.2.2.2) C full Q (fun rest L st G M cb sb => ∀ i, rest = full.drop i → mj_J X (mj_pc full i) L st G M cb sb) 0 (full.drop (i + 1)) L (.inl imm :: st) G M cb sb := h
        have hn := hnx.resolve_left Bool.false_ne_true
        have g := ih (i + 1) _ _ _ _ _ _ h
        rw [hn] at g
        simp only [mj_cx, Bool.and_eq_true, decide_eq_true_eq] at hcx
        exact mj_o_ldcw X hdec hcx.1 (mj_win hcx.2) g
      case if_acmp cd off =>
        have h : mj_r1 st (fun y st => mj_r1 st fun z st => mj_br (mj_rc cd z y) (mj_x (fun y => (T y).2.2.2.2.2.2) C full Q (fun rest L st G M cb sb => ∀ i, rest = full.drop i → mj_J X (mj_pc full i) L st G M cb sb) 0 (full.drop (mj_hd aux)) L st G M cb sb) (mj_x (fun y => (T y).2.2.2.2.2.2) C full Q (fun rest L st G M cb sb => ∀ i, rest = full.drop i → mj_J X (mj_pc full i) L st G M cb sb) 0 (full.drop (i + 1)) L st G M cb sb)) := h
        obtain ⟨y, st, rfl, u1⟩ := mj_r1_e h
        obtain ⟨z, st, rfl, h1, h2⟩ := mj_r1_e u1
        have hn := hnx.resolve_left Bool.false_ne_true
        have ht := of_decide_eq_true hcx
        have g1 := fun q => ih (mj_hd aux) _ _ _ _ _ _ (h1 q)
        have g2 := fun q => ih (i + 1) _ _ _ _ _ _ (h2 q)
        rw [hn] at g2
        cases cd
        · exact mj_o_acmp_eq X hdec ht g1 g2
        · exact mj_o_acmp_ne X hdec ht g1 g2
      case getstatic k =>
        have h : aux ≠ [] ∧ ∀ a, G a = mj_wt (mj_hd aux) → mj_x (fun y => (T y).2.2.2.2.2.2) C full Q (fun rest L st G M cb sb => ∀ i, rest = full.drop i → mj_J X (mj_pc full i) L st G M cb sb) 0 (full.drop (i + 1)) L (.inr (.inr (some a)) :: st) G M cb sb := h
        have hn := hnx.resolve_left Bool.false_ne_true
        have hcx := mj_win (of_decide_eq_true (mj_em h.1 hcx))
        have g := fun a q => ih (i + 1) _ _ _ _ _ _ (h.2 a q)
        rw [hn] at g
        unfold mj_wt at g
        unfold mj_wg at hcx
        cases hk : Nat.blt (mj_hd aux) 24 with
        | true =>
          rw [hk] at g hcx
          exact mj_o_gets X (Nat.le_of_ble_eq_true hk) hdec hcx g
        | false =>
          rw [hk] at g hcx
          exact mj_o_getsA X hdec hcx g
      case areturn =>
        have h : mj_r1 st (fun z st => st = [] ∧ Q (some (.inr (.inr z))) G M) := h
        obtain ⟨z, st, rfl, rfl, h2⟩ := mj_r1_e h
        exact mj_o_areturn X hdec (of_decide_eq_true hcx) h2
      all_goals exact h.elim
end MJS
