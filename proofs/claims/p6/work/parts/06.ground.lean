/-! ===== the small machine and the machine: heaps, locals, the judgement ===== -/
theorem mj_ti {z : Int} (h : mj_in z) : (Int32.ofInt z).toInt = z := by
  obtain ⟨h1, h2⟩ := h
  rw [Int32.toInt_ofInt]
  exact Int.bmod_eq_of_le (by simp [Int32.size]; omega) (by simp [Int32.size]; omega)
theorem mj_it (x : Int32) : Int32.ofInt x.toInt = x := Int32.ofInt_toInt x
theorem mj_rng (x : Int32) : mj_in x.toInt := ⟨by have := Int32.le_toInt x; simp at this; omega, by have := Int32.toInt_lt x; simp at this; omega⟩
theorem mj_lt {x y : Int} (hx : mj_in x) (hy : mj_in y) : Int32.ofInt x < Int32.ofInt y ↔ x < y := by rw [Int32.lt_iff_toInt_lt, mj_ti hx, mj_ti hy]
theorem mj_le {x y : Int} (hx : mj_in x) (hy : mj_in y) : Int32.ofInt x ≤ Int32.ofInt y ↔ x ≤ y := by rw [Int32.le_iff_toInt_le, mj_ti hx, mj_ti hy]
theorem mj_eq {x y : Int} (hx : mj_in x) (hy : mj_in y) : Int32.ofInt x = Int32.ofInt y ↔ x = y := ⟨fun h => by rw [← mj_ti hx, ← mj_ti hy, h], fun h => by rw [h]⟩
theorem mj_nn {z : Int} (hz : mj_in z) (h : 0 ≤ z) : ¬ Int32.ofInt z < 0 := by
  rw [Int32.lt_iff_toInt_lt, mj_ti hz]; simp; omega
theorem mj_nat {z : Int} (hz : mj_in z) : (Int32.ofInt z).toNatClampNeg = z.toNat := by
  show (Int32.ofInt z).toInt.toNat = _
  rw [mj_ti hz]
/-! the locals -/
def mj_asc : Nat → mj_L → List (Nat × Value)
  | _, [] => []
  | i, none :: t => mj_asc (i + 1) t
  | i, some v :: t => (i, mj_val v) :: mj_asc (i + 1) t
theorem mj_asc_of : ∀ (L : mj_L) (i j : Nat) (v : mj_V), mj_nt L j = some v → (i + j, mj_val v) ∈ mj_asc i L
  | [], _, _, _, h => by simp [mj_nt] at h
  | none :: t, i, 0, v, h => by simp [mj_nt] at h
  | none :: t, i, j + 1, v, h => by
    have := mj_asc_of t (i + 1) j v h
    rw [show i + 1 + j = i + (j + 1) by omega] at this
    exact this
  | some w :: t, i, 0, v, h => by
    have e : w = v := Option.some.inj h
    subst e
    exact List.mem_cons_self
  | some w :: t, i, j + 1, v, h => by
    have := mj_asc_of t (i + 1) j v h
    rw [show i + 1 + j = i + (j + 1) by omega] at this
    exact List.mem_cons_of_mem _ this
theorem mj_of_asc : ∀ (L : mj_L) (i : Nat) (q : Nat × Value), q ∈ mj_asc i L → ∃ (j : Nat) (v : mj_V), q = (i + j, mj_val v) ∧ mj_nt L j = some v
  | [], _, _, h => by simp [mj_asc] at h
  | none :: t, i, q, h => by
    obtain ⟨j, v, h1, h2⟩ := mj_of_asc t (i + 1) q h
    exact ⟨j + 1, v, by rw [h1, show i + 1 + j = i + (j + 1) by omega], h2⟩
  | some w :: t, i, q, h => by
    rcases List.mem_cons.mp h with h | h
    · exact ⟨0, w, h, rfl⟩
    · obtain ⟨j, v, h1, h2⟩ := mj_of_asc t (i + 1) q h
      exact ⟨j + 1, v, by rw [h1, show i + 1 + j = i + (j + 1) by omega], h2⟩
theorem mj_nt_set : ∀ (L : mj_L) (i j : Nat) (x : Option mj_V), mj_nt (L.set i x) j = if j = i ∧ i < L.length then x else mj_nt L j
  | [], i, j, x => by simp [mj_nt]
  | y :: t, 0, 0, x => by simp [mj_nt]
  | y :: t, 0, j + 1, x => by simp [mj_nt]
  | y :: t, i + 1, 0, x => by simp [mj_nt]
  | y :: t, i + 1, j + 1, x => by
    show mj_nt (t.set i x) j = _
    rw [mj_nt_set t i j x]
    simp [mj_nt]
theorem mj_nt_mem : ∀ (L : mj_L) (j : Nat) (v : mj_V), mj_nt L j = some v → some v ∈ L
  | [], _, _, h => by simp [mj_nt] at h
  | y :: t, 0, v, h => by
    have e : y = some v := h
    rw [e]; exact List.mem_cons_self
  | y :: t, j + 1, v, h => List.mem_cons_of_mem _ (mj_nt_mem t j v h)
def mj_LO (ls : Array Slot) (nL : Nat) (L : mj_L) : Prop := lv_has ls nL (mj_asc 0 L) ∧ L.length = nL ∧ ∀ j v, mj_nt L j = some v → mj_ok v
theorem mj_LO.at {ls : Array Slot} {nL : Nat} {L : mj_L} (h : mj_LO ls nL L) {i : Nat} {v : mj_V} (hv : mj_nt L i = some v) : ls[i]? = some (.val (mj_val v)) := by
  have := h.1.2.2 _ (mj_asc_of L 0 i v hv)
  simpa using this
theorem mj_cat2 (v : mj_V) : ((mj_val v).category == 2) = true ↔ ∃ w, v = .inr (.inl w) := by
  rcases v with z | w | r
  · simp [mj_val, Value.category]
  · simp [mj_val, Value.category]
  · cases r <;> simp [mj_val, va_rf, Value.category]
theorem mj_kl_len (L : mj_L) (i : Nat) : (mj_kl L i).length = L.length := by
  unfold mj_kl
  cases i with
  | zero => rfl
  | succ j =>
    dsimp only
    split <;> simp
theorem mj_kl_nt {L : mj_L} {i j : Nat} {v : mj_V} (h : mj_nt (mj_kl L i) j = some v) : mj_nt L j = some v ∧ ¬ (j + 1 = i ∧ ∃ w, v = .inr (.inl w)) := by
  unfold mj_kl at h
  cases i with
  | zero => exact ⟨h, fun q => by omega⟩
  | succ k =>
    dsimp only at h
    split at h
    · rename_i w hw
      rw [mj_nt_set] at h
      split at h
      · cases h
      · rename_i hn
        refine ⟨h, fun q => ?_⟩
        have e : j = k := by omega
        subst e
        have hl : ¬ j < L.length := fun z => hn ⟨rfl, z⟩
        have : ∀ (L : mj_L) (j : Nat), ¬ j < L.length → mj_nt L j = none := by
          intro L
          induction L with
          | nil => intro j _; rfl
          | cons y t ih =>
            intro j hj
            cases j with
            | zero => simp at hj
            | succ j => exact ih j (by simp at hj; omega)
        rw [this L j hl] at h
        cases h
    · rename_i hw
      refine ⟨h, fun q => ?_⟩
      obtain ⟨q1, w, q2⟩ := q
      have e : j = k := by omega
      subst e
      exact hw w (by rw [h, q2])
theorem mj_LO.st1 {ls ls' : Array Slot} {nL i : Nat} {L : mj_L} {v : mj_V} (h : mj_LO ls nL L) (hi : i < nL) (hv : mj_ok v)
    (h' : lv_has ls' nL ((i, mj_val v) :: (mj_asc 0 L).filter (fun q => !(q.1 == i) && !(q.1 + 1 == i && q.2.category == 2)))) : mj_LO ls' nL (mj_s1 L i v) := by
  refine ⟨⟨h'.1, h'.2.1, fun q hq => h'.2.2 q ?_⟩, ?_, ?_⟩
  · obtain ⟨j, w, rfl, hw⟩ := mj_of_asc _ _ _ hq
    unfold mj_s1 at hw
    rw [mj_nt_set] at hw
    split at hw
    · rename_i hc
      have e : v = w := Option.some.inj hw
      rw [e, hc.1]; simp
    · rename_i hc
      have hj : j ≠ i := fun q => hc ⟨q, by rw [mj_kl_len, h.2.1]; exact hi⟩
      obtain ⟨h1, h2⟩ := mj_kl_nt hw
      refine List.mem_cons_of_mem _ (List.mem_filter.mpr ⟨mj_asc_of L 0 j w h1, ?_⟩)
      have e1 : (0 + j == i) = false := by simp; exact hj
      rw [Bool.and_eq_true]
      refine ⟨by simp; exact hj, ?_⟩
      rw [Bool.not_eq_true', Bool.and_eq_false_iff]
      by_cases hji : j + 1 = i
      · right
        have := mt (fun q => (⟨hji, (mj_cat2 w).mp q⟩ : j + 1 = i ∧ ∃ w', w = .inr (.inl w'))) h2
        simpa using this
      · left
        simp; exact hji
  · unfold mj_s1; rw [List.length_set, mj_kl_len]; exact h.2.1
  · intro j w hw
    unfold mj_s1 at hw
    rw [mj_nt_set] at hw
    split at hw
    · have e : v = w := Option.some.inj hw
      rw [← e]; exact hv
    · exact h.2.2 j w (mj_kl_nt hw).1
theorem mj_LO.st2 {ls ls' : Array Slot} {nL i : Nat} {L : mj_L} {v : mj_V} (h : mj_LO ls nL L) (hi : i + 1 < nL) (hv : mj_ok v)
    (h' : lv_has ls' nL ((i, mj_val v) :: (mj_asc 0 L).filter (fun q => !(q.1 == i) && (!(q.1 == i + 1) && !(q.1 + 1 == i && q.2.category == 2))))) : mj_LO ls' nL (mj_s2 L i v) := by
  refine ⟨⟨h'.1, h'.2.1, fun q hq => h'.2.2 q ?_⟩, ?_, ?_⟩
  · obtain ⟨j, w, rfl, hw⟩ := mj_of_asc _ _ _ hq
    unfold mj_s2 at hw
    rw [mj_nt_set] at hw
    split at hw
    · cases hw
    · rename_i hc0
      have hj1 : j ≠ i + 1 := fun q => hc0 ⟨q, by rw [List.length_set, mj_kl_len, h.2.1]; exact hi⟩
      rw [mj_nt_set] at hw
      split at hw
      · rename_i hc
        have e : v = w := Option.some.inj hw
        rw [e, hc.1]; simp
      · rename_i hc
        have hj : j ≠ i := fun q => hc ⟨q, by rw [mj_kl_len, h.2.1]; omega⟩
        obtain ⟨h1, h2⟩ := mj_kl_nt hw
        refine List.mem_cons_of_mem _ (List.mem_filter.mpr ⟨mj_asc_of L 0 j w h1, ?_⟩)
        rw [Bool.and_eq_true, Bool.and_eq_true]
        refine ⟨by simp; exact hj, by simp; exact hj1, ?_⟩
        rw [Bool.not_eq_true', Bool.and_eq_false_iff]
        by_cases hji : j + 1 = i
        · right
          have := mt (fun q => (⟨hji, (mj_cat2 w).mp q⟩ : j + 1 = i ∧ ∃ w', w = .inr (.inl w'))) h2
          simpa using this
        · left
          simp; exact hji
  · unfold mj_s2; rw [List.length_set, List.length_set, mj_kl_len]; exact h.2.1
  · intro j w hw
    unfold mj_s2 at hw
    rw [mj_nt_set] at hw
    split at hw
    · cases hw
    · rw [mj_nt_set] at hw
      split at hw
      · have e : v = w := Option.some.inj hw
        rw [← e]; exact hv
      · exact h.2.2 j w (mj_kl_nt hw).1
/-! the heap -/
theorem mj_bare (vm : Vm) (comp : ClassId) : (vm.bare.classes.findIdx? fun (x : Class) => match x.kind with | .array component _ => component == comp | _ => false) = (vm.classes.findIdx? fun (x : Class) => match x.kind with | .array component _ => component == comp | _ => false) := by
  simp only [Vm.bare, Array.findIdx?_map]
  rfl
theorem mj_aoa {t : FieldType} {u U : State} (hvm : u.vm.Alike U.vm) (h : (Cond.arrayOver (.array t)).before #[] u = true) : (Cond.arrayOver (.array t)).before #[] U = true := by
  obtain ⟨comp, c, k, h1, h2, h3, h4, h5⟩ := arrayOverA_spec h
  obtain ⟨k', hk', he⟩ := hvm.2.2 _ _ h3
  have hi : (U.vm.classes.findIdx? fun (x : Class) => match x.kind with | .array component _ => component == comp | _ => false) = some c := by
    rw [← mj_bare]
    first | rw [hvm.bare_eq] | rw [← hvm.bare_eq]
    rw [mj_bare]
    exact h2
  have hkind : k'.kind = .array comp (.array t) := by rw [he]; exact h4
  have f1 : U.vm.findClass (FieldType.array t).toString = some comp := by rw [hvm.findClass]; exact h1
  have f2 : U.vm.findClass ("[" ++ (FieldType.array t).toString) = some c := by rw [hvm.findClass]; exact h5
  unfold Cond.before Cond.holds
  simp only [Cond.value]
  rw [f1, Option.bind_some]
  refine (congrArg (fun o : Option Nat => (o.bind (fun c => (U.vm.classes[c]?).map fun (k : Class) => match k.kind with | .array _ ty => decide (ty = FieldType.array t) && decide (U.vm.findClass ("[" ++ (FieldType.array t).toString) = some c) | _ => false) == some true)) hi).trans ?_
  simp [hk', hkind, f2]
def mj_cn (j : Nat) : String := match j with
  | 5 => "RentRiver$Word"
  | _ => "RentRiver$State"
def mj_K (D : va_G) (dA : Nat → ClassId) (U : State) : Prop :=
  (∀ (ci : Nat) (q : vw_C), vwCl[ci]? = some q → u_Kn U q.1 q.2.1 q.2.2 (D.1 ci) (D.2 ci)) ∧ (∀ j : Nat, j < 7 → U.vm.findClass ("[" ++ (mj_at j).toString) = some (dA j) ∧ ArrOfT U (dA j) (mj_at j)) ∧
  (Cond.arrayOver (.array .int)).before #[] U = true ∧ ∀ j : Nat, j = 5 ∨ j = 6 → va_AO (mj_cn j) U ∧ va_RA U (dA j) (.object (mj_cn j))
theorem mj_K.moved {D : va_G} {dA : Nat → ClassId} {u U : State} (hvm : u.vm.Alike U.vm) (h : mj_K D dA u) : mj_K D dA U :=
  ⟨fun ci q hq => u_Kn_moved hvm (h.1 ci q hq), fun j hj => ⟨by rw [hvm.findClass]; exact (h.2.1 j hj).1, arrOfT_moved hvm (h.2.1 j hj).2⟩, mj_aoa hvm h.2.2.1, fun j hj => ⟨(h.2.2.2 j hj).1.moved hvm, (h.2.2.2 j hj).2.moved hvm⟩⟩
/-- the words' addresses and tags, and the list of all -/
def mj_HW (dA : Nat → ClassId) (G : mj_G) : Prop := (∀ k, k < 24 → G (dA (100 + k)) = (900050 + 1000 * k, 0)) ∧ (∀ a t n, G a = (t, n) → t % 1000 = 50 → ∃ k, k < 24 ∧ t = 900050 + 1000 * k ∧ a = dA (100 + k)) ∧ G (dA 99) = (900105, 24)
/-- the words in the heap, and the statics that hold them -/
def mj_EW (dA : Nat → ClassId) (B : Nat) (U : State) (H : Heap) : Prop := va_En RX9 "LRentRiver$Word;" mj_wn [(RX9, "what", "I", mj_ww.map Int32.ofInt)] (fun k => dA (100 + k)) (fun q => B ≤ q) U H ∧ va_Ef 24 RX9 "code" "J" (fun k => .long (mj_wc.getD k 0)) (fun k => dA (100 + k)) (fun q => B ≤ q) U H ∧ va_Z RX9 "ALL" "[LRentRiver$Word;" (.ref (dA 99)) (fun q => B ≤ q) U H
theorem mj_EW.go {dA : Nat → ClassId} {B : Nat} {s U : State} {H : Heap} {locs : List Loc} (h : mj_EW dA B s s.heap) (hS : va_S (fun q => B ≤ q) s.heap H locs) (hU : U.heap = H) (hv : s.vm.Alike U.vm) : mj_EW dA B U U.heap := by
  rw [hU]
  exact ⟨(h.1.kept hS.2.1).moved hv, (h.2.1.kept hS.2.1).moved hv, (h.2.2.kept hS.2.1).moved hv⟩
theorem mj_HW.add {dA : Nat → ClassId} {G G' : mj_G} {N : Nat} (h : mj_HW dA G) (hN : ∀ x, N ≤ x → G x = (0, 0)) (h1 : ∀ x, x < N → G' x = G x) (h2 : ∀ x t n, N ≤ x → G' x = (t, n) → t % 1000 ≠ 50) : mj_HW dA G' := by
  have lt : ∀ x t n, G x = (t, n) → t ≠ 0 → x < N := fun x t n hx ht => by
    rcases Nat.lt_or_ge x N with q | q
    · exact q
    · have := hN x q
      rw [hx] at this
      exact absurd (Prod.mk.inj this).1 ht
  refine ⟨fun k hk => ?_, fun a t n ha ht => ?_, ?_⟩
  · have e := h.1 k hk
    rw [h1 _ (lt _ _ _ e (by omega))]; exact e
  · rcases Nat.lt_or_ge a N with q | q
    · rw [h1 a q] at ha; exact h.2.1 a t n ha ht
    · exact absurd ht (h2 a t n q ha)
  · have e := h.2.2
    rw [h1 _ (lt _ _ _ e (by omega))]; exact e
theorem mj_arc {c : ClassId} {N : Nat} {f g : Nat → Value} (h : ∀ k, k < N → f k = g k) : arrV c N f = arrV c N g := by
  have e : (fun j : Fin N => f j.val) = fun j : Fin N => g j.val := funext fun j => h j.val j.isLt
  show ({ cls := c, slots := Array.ofFn (n := N) fun j => f j.val, vm := .none } : Cell) = { cls := c, slots := Array.ofFn (n := N) fun j => g j.val, vm := .none }
  rw [e]
/-- an array's cell; of the list of all words only what can be read is known -/
def mj_ar (t : Nat) (c : ClassId) (n : Nat) (f : Nat → Value) (o : Option Cell) : Prop := o = some (arrV c n f) ∨ (900000 ≤ t ∧ t % 1000 = 105 ∧ ∃ cell : Cell, o = some cell ∧ (∀ k, cell.vm ≠ .statics k) ∧ cell.vm ≠ .unknown ∧ cell.cls = c ∧ (n ≤ cell.slots.size ∧ cell.slots.size.toInt32 = Int32.ofNat n) ∧ ∀ k, k < n → cell.slots[k]? = some (f k))
theorem mj_ar.cg {t : Nat} {c : ClassId} {n : Nat} {f g : Nat → Value} {o o' : Option Cell} (h : mj_ar t c n f o) (e : o' = o) (hf : ∀ k, k < n → f k = g k) : mj_ar t c n g o' := by
  subst e
  rcases h with h | ⟨h1, h2, cell, h3, h4, h5, h6, h7, h8⟩
  · exact Or.inl (by rw [h, mj_arc hf])
  · exact Or.inr ⟨h1, h2, cell, h3, h4, h5, h6, h7, fun k hk => by rw [h8 k hk, hf k hk]⟩
theorem mj_ar.ex {t : Nat} {c : ClassId} {n : Nat} {f : Nat → Value} {o : Option Cell} (h : mj_ar t c n f o) (hx : t < 900000 ∨ t % 1000 ≠ 105) : o = some (arrV c n f) := by
  rcases h with h | ⟨h1, h2, -⟩
  · exact h
  · exfalso; omega
theorem mj_ar.rd {t : Nat} {c : ClassId} {n : Nat} {f : Nat → Value} {o : Option Cell} (h : mj_ar t c n f o) : ∃ cell : Cell, o = some cell ∧ (∀ k, cell.vm ≠ .statics k) ∧ cell.vm ≠ .unknown ∧ cell.cls = c ∧ (n ≤ cell.slots.size ∧ cell.slots.size.toInt32 = Int32.ofNat n) ∧ ∀ k, k < n → cell.slots[k]? = some (f k) := by
  rcases h with h | ⟨h1, h2, h3⟩
  · exact ⟨_, h, (fun k q => by cases q), (fun q => by cases q), rfl, ⟨Nat.le_of_eq (arrV_size _ _ _).symm, by rw [arrV_size]⟩, fun k hk => arrV_read _ _ hk⟩
  · exact h3
def mj_H (D : va_G) (dA : Nat → ClassId) (B : Nat) (G : mj_G) (M : mj_M) (H : Heap) : Prop :=
  (∀ a k, mj_in (M.1 a k)) ∧ ((∀ x, H.size ≤ x → G x = (0, 0)) ∧ mj_HW dA G) ∧ ∀ a t n, G a = (t, n) → t ≠ 0 → (t < 900000 → B ≤ a) ∧
    (∀ (ci : Nat) (r : vw_C), t % 1000 = ci + 1 → vwCl[ci]? = some r → t_OB a (D.1 ci) r.2.2 (D.2 ci) H (fun k => mj_sv (mj_so ci k) M a k)) ∧
    (∀ j : Nat, t % 1000 = 100 + j → mj_ar t (dA j) n (fun k => mj_sv (mj_as j) M a k) H[a]?)
def mj_Q (D : va_G) (dA : Nat → ClassId) (B : Nat) (Q : mj_P) : Array Value → State → Outcome → State → Prop := fun _ st o t =>
  ∃ (r : Option mj_V) (G : mj_G) (M : mj_M), o = .returned (r.map mj_val) ∧ Q r G M ∧ (∀ v, r = some v → mj_ok v) ∧ mj_H D dA B G M t.heap ∧ mj_K D dA t ∧ va_F (fun q => B ≤ q) st t
/-- what is fixed while a method runs -/
def mj_X (p : Program) (l : Launch) (e : Env) (R : Room) (s : State) (m : MethodId) (args : Array Value) (below : List Frame) (meth : Method) (c : Code) (own : String) (cc : ByteArray) (ret : Option FieldType) (D : va_G) (dA : Nat → ClassId) (B nL mc ms : Nat) (Q : mj_P) : Prop :=
  (p.tables.exec = Jvm.exec ∧ c.code = cc ∧ c.maxLocals = nL ∧ meth.sig.returnType = ret ∧ s.vm.findClass own = some m.cls) ∧ (∀ w ∈ mj_tb, w.before args s = true) ∧ meth.locks = false ∧ mj_K D dA s ∧ (B ≤ s.heap.size ∧ mj_EW dA B s s.heap) ∧ (1 ≤ R.frames ∧ 100 ≤ R.locals ∧ mc ≤ R.cells ∧ ms ≤ R.slots)
def mj_J {p : Program} {l : Launch} {e : Env} {R : Room} {s : State} {m : MethodId} {args : Array Value} {below : List Frame} {meth : Method} {c : Code} {own : String} {cc : ByteArray} {ret : Option FieldType} {D : va_G} {dA : Nat → ClassId} {B nL mc ms : Nat} {Q : mj_P}
    (_ : mj_X p l e R s m args below meth c own cc ret D dA B nL mc ms Q) (pc : Nat) (L : mj_L) (st : List mj_V) (G : mj_G) (M : mj_M) (cb sb : Nat) : Prop :=
  ∀ (H : Heap) (locs : List Loc) (ls : Array Slot) (cells slots : Nat), mj_H D dA B G M H → va_S (fun q => B ≤ q) s.heap H locs → mj_LO ls nL L → (∀ v ∈ st, mj_ok v) → cells + cb ≤ mc → slots + sb ≤ ms →
    W p l e R s m args below meth c H locs cells slots (MQ below (mj_Q D dA B Q) args s mc ms (fun q => B ≤ q)) (F0 m pc ls (st.map mj_val))
theorem mj_cons {st : List mj_V} {v : mj_V} (h : ∀ w ∈ st, mj_ok w) (hv : mj_ok v) : ∀ w ∈ v :: st, mj_ok w := fun w hw => by
  rcases List.mem_cons.mp hw with rfl | q
  · exact hv
  · exact h w q
theorem mj_tl {st : List mj_V} {v : mj_V} (h : ∀ w ∈ v :: st, mj_ok w) : ∀ w ∈ st, mj_ok w := fun w hw => h w (List.mem_cons_of_mem _ hw)
theorem mj_head {st : List mj_V} {v : mj_V} (h : ∀ w ∈ v :: st, mj_ok w) : mj_ok v := h v List.mem_cons_self
