/-! ===== what the symbolic run says, the small machine does ===== -/
abbrev sx_w : Type := Nat × (Nat → Int) × Nat × (Nat → Nat)
def sx_up (w w' : sx_w) : Prop := w.1 ≤ w'.1 ∧ (∀ i, i < w.1 → w'.2.1 i = w.2.1 i) ∧ w.2.2.1 ≤ w'.2.2.1 ∧ ∀ i, i < w.2.2.1 → w'.2.2.2 i = w.2.2.2 i
theorem sx_up.rf {w : sx_w} : sx_up w w := ⟨Nat.le_refl _, fun _ _ => rfl, Nat.le_refl _, fun _ _ => rfl⟩
def sx_e (w w' : sx_w) : Prop := sx_up w w' ∧ w'.2.2.1 = w.2.2.1
theorem sx_e.rf {w : sx_w} : sx_e w w := ⟨sx_up.rf, rfl⟩
def sx_RI (w : sx_w) (x : sx_I) (z : Int) : Prop := match x with
  | .inl y => y = z
  | .inr i => i < w.1 ∧ w.2.1 i = z
def sx_RO (w : sx_w) (x r : Option Nat) : Prop := match x with
  | none => r = none
  | some i => i < w.2.2.1 ∧ r = some (w.2.2.2 i)
def sx_RV (w : sx_w) (x : sx_V) (v : mj_V) : Prop := match x with
  | .inl x => ∃ z, v = .inl z ∧ sx_RI w x z
  | .inr (.inl x) => v = .inr (.inl x)
  | .inr (.inr x) => ∃ r, v = .inr (.inr r) ∧ sx_RO w x r
def sx_RS (w : sx_w) : List sx_V → List mj_V → Prop
  | [], t => t = []
  | x :: s, t => ∃ v t', t = v :: t' ∧ sx_RV w x v ∧ sx_RS w s t'
def sx_RL (w : sx_w) : sx_L → mj_L → Prop
  | [], L => L = []
  | none :: s, L => ∃ v L', L = v :: L' ∧ sx_RL w s L'
  | some x :: s, L => ∃ v L', L = some v :: L' ∧ sx_RV w x v ∧ sx_RL w s L'
def sx_RY (w : sx_w) (Y : sx_Y) : Prop := w.1 = Y.length ∧ ∀ i q, sx_ny Y i = some q → q.1 ≤ w.2.1 i ∧ w.2.1 i ≤ q.2
abbrev sx_ms : Nat → Nat × Nat := fun y => (mj_tab y).2.2.2.2.2.2
/-- the law's told on a fresh object -/
def sx_td (Z : mj_S) : Prop := ∀ (k pc : Nat) (im : Int) (rest : List mj_E) (L : mj_L) (st : List mj_V) (G : mj_G) (M : mj_M) (cb sb : Nat) (o : Option Nat) (p1 p0 : Int) (a b c t1 t2 t3 n1 n2 n3 : Nat), G a = (t1, n1) → t1 % 1000 = 11 → M.2.2 a 1 = some b → G b = (t2, n2) → t2 % 1000 = 7 → M.2.2 b 0 = some c → G c = (t3, n3) → t3 % 1000 = 4 → M.1 c 4 = 0 → mj_cat st ≤ 8 → 4 ≤ cb → 64 ≤ sb → Z rest L (.inl 1 :: st) G M (cb - 4) (sb - 64) → Z ((.invokestatic k, pc, [], im) :: rest) L (.inr (.inr o) :: .inl p1 :: .inl p0 :: .inr (.inr (some a)) :: st) G M cb sb
/-- the script: where it lies, its ints; at 6 its length -/
abbrev sx_q : Type := Nat × (Nat → Int)
def sx_tz (q : sx_q) (Z : mj_S) : Prop := sx_td Z ∧ (∀ (pc : Nat) (aux : List Nat) (im : Int) (rest : List mj_E) (L : mj_L) (st : List mj_V) (G : mj_G) (M : mj_M) (cb sb : Nat) (z : Int), 0 ≤ z → z < q.2 6 → Z rest L (.inl (q.2 z.toNat) :: st) G M cb sb → Z ((.iaload, pc, aux, im) :: rest) L (.inl z :: .inr (.inr (some q.1)) :: st) G M cb sb) ∧ ∀ (pc : Nat) (aux : List Nat) (im : Int) (rest : List mj_E) (L : mj_L) (st : List mj_V) (G : mj_G) (M : mj_M) (cb sb : Nat), Z rest L (.inl (q.2 6) :: st) G M cb sb → Z ((.arraylength, pc, aux, im) :: rest) L (.inr (.inr (some q.1)) :: st) G M cb sb
def sx_sc (q : sx_q) (w : sx_w) : Prop := 0 < w.2.2.1 ∧ w.2.2.2 0 = q.1 ∧ 8 ≤ w.1 ∧ (∀ k, k < 8 → w.2.1 k = q.2 k) ∧ q.2 7 = (Int32.ofInt (q.2 0) &&& Int32.ofInt 63).toInt
theorem sx_sc.up {q : sx_q} {w w' : sx_w} (u : sx_up w w') (h : sx_sc q w) : sx_sc q w' := ⟨Nat.lt_of_lt_of_le h.1 u.2.2.1, (u.2.2.2 0 h.1).trans h.2.1, Nat.le_trans h.2.2.1 u.1, fun k hk => (u.2.1 k (Nat.lt_of_lt_of_le hk h.2.2.1)).trans (h.2.2.2.1 k hk), h.2.2.2.2⟩
def sx_cz (q : sx_q) (fs : List sx_F) (y d : Nat) (Q : mj_P) (Z : mj_S) : Prop := (∀ rest L st G M cb sb, mj_x sx_ms (mj_R mj_tab d) (sx_full y) Q Z 1 rest L st G M cb sb → Z rest L st G M cb sb) ∧ (fs = [] → y = 900 → sx_tz q Z)
def sx_RF (q : sx_q) (w : sx_w) : List sx_F → mj_P → Prop
  | [], Q => (∀ G M, Q (some (.inl 1)) G M) ∧ sx_sc q w
  | (y, d, rest, L, st, cb, sb) :: fs, Q => ∃ (L' : mj_L) (st' : List mj_V) (Q' : mj_P) (Z : mj_S), sx_cz q fs y d Q' Z ∧ sx_RL w L L' ∧ sx_RS w st st' ∧ sx_RF q w fs Q' ∧ ∀ r G M, Z rest L' (mj_ret r st') G M cb sb → Q r G M
def sx_RC (w : sx_w) (G : mj_G) (M : mj_M) (i : Nat) (c : sx_c) : Prop := G (w.2.2.2 i) = (c.1, c.2.1) ∧ c.1 ≠ 0 ∧ ∀ k, k < 4096 → sx_RI w (sx_g c.2.2.1 k) (M.1 (w.2.2.2 i) k) ∧ M.2.1 (w.2.2.2 i) k = sx_g c.2.2.2.1 k ∧ sx_RO w (sx_g c.2.2.2.2 k) (M.2.2 (w.2.2.2 i) k)
def sx_RH (w : sx_w) (h : sx_H) (G : mj_G) (M : mj_M) : Prop := h.1 = w.2.2.1 ∧ h.1 ≤ 4096 ∧ (∀ i, i < h.1 → sx_RC w G M i (sx_g h.2 i)) ∧ ∀ i j, i < h.1 → j < h.1 → w.2.2.2 i = w.2.2.2 j → i = j
theorem sx_RI.up {w w' : sx_w} {x : sx_I} {z : Int} (u : sx_up w w') (h : sx_RI w x z) : sx_RI w' x z := by
  cases x with
  | inl y => exact h
  | inr i => exact ⟨Nat.lt_of_lt_of_le h.1 u.1, (u.2.1 i h.1).trans h.2⟩
theorem sx_RO.up {w w' : sx_w} {x r : Option Nat} (u : sx_up w w') (h : sx_RO w x r) : sx_RO w' x r := by
  cases x with
  | none => exact h
  | some i => exact ⟨Nat.lt_of_lt_of_le h.1 u.2.2.1, by rw [u.2.2.2 i h.1]; exact h.2⟩
theorem sx_RV.up {w w' : sx_w} {x : sx_V} {v : mj_V} (u : sx_up w w') (h : sx_RV w x v) : sx_RV w' x v := by
  rcases x with x | x | x
  · obtain ⟨z, h1, h2⟩ := h; exact ⟨z, h1, h2.up u⟩
  · exact h
  · obtain ⟨z, h1, h2⟩ := h; exact ⟨z, h1, h2.up u⟩
theorem sx_RS.up {w w' : sx_w} (u : sx_up w w') : ∀ {s : List sx_V} {t : List mj_V}, sx_RS w s t → sx_RS w' s t
  | [], _, h => h
  | _ :: _, _, h => by
    obtain ⟨v, t', h1, h2, h3⟩ := h
    exact ⟨v, t', h1, h2.up u, h3.up u⟩
theorem sx_RL.up {w w' : sx_w} (u : sx_up w w') : ∀ {s : sx_L} {t : mj_L}, sx_RL w s t → sx_RL w' s t
  | [], _, h => h
  | none :: _, _, h => by
    obtain ⟨v, t', h1, h3⟩ := h
    exact ⟨v, t', h1, h3.up u⟩
  | some _ :: _, _, h => by
    obtain ⟨v, t', h1, h2, h3⟩ := h
    exact ⟨v, t', h1, h2.up u, h3.up u⟩
theorem sx_RF.up {q : sx_q} {w w' : sx_w} (u : sx_up w w') : ∀ {fs : List sx_F} {Q : mj_P}, sx_RF q w fs Q → sx_RF q w' fs Q
  | [], _, h => ⟨h.1, h.2.up u⟩
  | (_, _, _, _, _, _, _) :: _, _, h => by
    obtain ⟨L', st', Q', Z, h1, h2, h3, h4, h5⟩ := h
    exact ⟨L', st', Q', Z, h1, h2.up u, h3.up u, h4.up u, h5⟩
theorem sx_RH.up {w w' : sx_w} {h : sx_H} {G : mj_G} {M : mj_M} (u : sx_e w w') (hh : sx_RH w h G M) : sx_RH w' h G M := by
  obtain ⟨h1, h2, h3, h4⟩ := hh
  have e : ∀ i, i < h.1 → w'.2.2.2 i = w.2.2.2 i := fun i hi => u.1.2.2.2 i (by omega)
  refine ⟨by rw [u.2]; exact h1, h2, fun i hi => ?_, fun i j hi hj q => h4 i j hi hj (by rw [← e i hi, ← e j hj]; exact q)⟩
  obtain ⟨c1, c2, c3⟩ := h3 i hi
  unfold sx_RC
  rw [e i hi]
  exact ⟨c1, c2, fun k hk => ⟨(c3 k hk).1.up u.1, (c3 k hk).2.1, (c3 k hk).2.2.up u.1⟩⟩
/-! numbers -/
theorem sx_le_iff {x y : Int} : sx_le x y = true ↔ x ≤ y := by
  cases x <;> cases y <;> simp only [sx_le]
  · rw [Nat.ble_eq]; simp only [Int.ofNat_eq_natCast]; omega
  · simp only [Int.ofNat_eq_natCast, Int.negSucc_eq, Bool.false_eq_true, false_iff]; omega
  · simp only [Int.ofNat_eq_natCast, Int.negSucc_eq, true_iff]; omega
  · rw [Nat.ble_eq]; simp only [Int.negSucc_eq]; omega
theorem sx_le_no {x y : Int} (h : sx_le x y ≠ true) : y < x := by
  have := mt sx_le_iff.mpr h; omega
theorem sx_eq_iff {x y : Int} : sx_eq x y = true ↔ x = y := by
  unfold sx_eq; rw [Bool.and_eq_true, sx_le_iff, sx_le_iff]; omega
theorem sx_in_of {lo hi z : Int} (h : sx_in lo hi = true) (h1 : lo ≤ z) (h2 : z ≤ hi) : mj_in z := by
  unfold sx_in at h
  rw [Bool.and_eq_true, sx_le_iff, sx_le_iff] at h
  obtain ⟨a, b⟩ := h
  have a' : (-2147483648 : Int) ≤ lo := a
  have b' : hi ≤ (2147483647 : Int) := b
  exact ⟨by omega, by omega⟩
theorem sx_fn_eq (n : Nat) (k : Nat → Bool) : sx_fn n k = k n := by cases n <;> rfl
theorem sx_fi_eq (z : Int) (k : Int → Bool) : sx_fi z k = k z := by cases z <;> simp only [sx_fi, sx_fn_eq]
theorem sx_cd {b x : Bool} (h : cond b x false = true) : b = true ∧ x = true := by cases b <;> simp_all
theorem sx_ct {b x : Bool} (h : cond b x true = true) (hb : b = true) : x = true := by subst hb; exact h
theorem sx_cf {b x : Bool} (h : cond b true x = true) (hb : b ≠ true) : x = true := by cases b <;> simp_all
theorem sx_nd {a b : Bool} (h : (a && b) = true) : a = true ∧ b = true := by rw [Bool.and_eq_true] at h; exact h
theorem sx_beq {a b : Nat} (h : Nat.beq a b = true) : a = b := Nat.eq_of_beq_eq_true h
theorem sx_blt {a b : Nat} (h : Nat.blt a b = true) : a < b := Nat.le_of_ble_eq_true h
theorem sx_ble {a b : Nat} (h : Nat.ble a b = true) : a ≤ b := Nat.le_of_ble_eq_true h
theorem sx_iv_s {Y : sx_Y} {x : sx_I} {k : Int → Int → Bool} {w : sx_w} {z : Int} (h : sx_iv Y x k = true) (hY : sx_RY w Y) (hx : sx_RI w x z) : ∃ lo hi, k lo hi = true ∧ lo ≤ z ∧ z ≤ hi := by
  cases x with
  | inl y => exact ⟨y, y, h, by rw [show y = z from hx]; exact Int.le_refl _, by rw [show y = z from hx]; exact Int.le_refl _⟩
  | inr i =>
    unfold sx_iv at h
    dsimp only at h
    cases hq : sx_ny Y i with
    | none => rw [hq] at h; cases h
    | some q =>
      rw [hq] at h
      have hb := hY.2 i q hq
      rw [hx.2] at hb
      exact ⟨q.1, q.2, h, hb⟩
theorem sx_kn_s {Y : sx_Y} {x : sx_I} {k : Int → Bool} {w : sx_w} {z : Int} (h : sx_kn Y x k = true) (hY : sx_RY w Y) (hx : sx_RI w x z) : k z = true := by
  obtain ⟨lo, hi, h1, h2, h3⟩ := sx_iv_s h hY hx
  obtain ⟨h4, h5⟩ := sx_cd h1
  have := sx_eq_iff.mp h4
  rw [show z = lo by omega]; exact h5
theorem sx_ny_app : ∀ (Y : sx_Y) (q : Int × Int) (i : Nat) (r : Int × Int), sx_ny (Y ++ [q]) i = some r → (i = Y.length ∧ r = q) ∨ sx_ny Y i = some r
  | [], q, 0, r, h => Or.inl ⟨rfl, (Option.some.inj h).symm⟩
  | [], q, i + 1, r, h => by cases h
  | x :: t, q, 0, r, h => Or.inr h
  | x :: t, q, i + 1, r, h => by
    rcases sx_ny_app t q i r h with ⟨h1, h2⟩ | h1
    · exact Or.inl ⟨by rw [h1]; rfl, h2⟩
    · exact Or.inr h1
theorem sx_ny_set : ∀ (Y : sx_Y) (j : Nat) (q : Int × Int) (i : Nat) (r : Int × Int), sx_ny (Y.set j q) i = some r → (i = j ∧ r = q) ∨ sx_ny Y i = some r
  | [], _, _, _, _, h => by cases h
  | x :: t, 0, q, 0, r, h => Or.inl ⟨rfl, (Option.some.inj h).symm⟩
  | x :: t, 0, q, i + 1, r, h => Or.inr h
  | x :: t, j + 1, q, 0, r, h => Or.inr h
  | x :: t, j + 1, q, i + 1, r, h => by
    rcases sx_ny_set t j q i r h with ⟨h1, h2⟩ | h1
    · exact Or.inl ⟨by rw [h1], h2⟩
    · exact Or.inr h1
theorem sx_RY.set {w : sx_w} {Y : sx_Y} (hY : sx_RY w Y) {i : Nat} {q : Int × Int} (h : q.1 ≤ w.2.1 i ∧ w.2.1 i ≤ q.2) : sx_RY w (Y.set i q) := by
  refine ⟨by rw [List.length_set]; exact hY.1, fun j r hr => ?_⟩
  rcases sx_ny_set Y i q j r hr with ⟨h1, h2⟩ | h1
  · rw [h1, h2]; exact h
  · exact hY.2 j r h1
theorem sx_fr_s {Y : sx_Y} {lo hi z : Int} {k : sx_I → sx_Y → Bool} {w : sx_w} (h : sx_fr Y lo hi k = true) (hY : sx_RY w Y) (h1 : lo ≤ z) (h2 : z ≤ hi) : ∃ w' x Y', sx_e w w' ∧ sx_RY w' Y' ∧ sx_RI w' x z ∧ k x Y' = true := by
  have hz : (if w.1 = w.1 then z else w.2.1 w.1) = z := if_pos rfl
  refine ⟨(w.1 + 1, fun i => if i = w.1 then z else w.2.1 i, w.2.2), .inr Y.length, Y ++ [(lo, hi)], ⟨⟨Nat.le_succ _, fun i hi => if_neg (Nat.ne_of_lt hi), Nat.le_refl _, fun _ _ => rfl⟩, rfl⟩, ⟨?_, fun i r hr => ?_⟩, ⟨?_, ?_⟩, h⟩
  · rw [List.length_append, ← hY.1]; rfl
  · rcases sx_ny_app Y _ i r hr with ⟨e1, e2⟩ | e1
    · rw [e1, e2, ← hY.1]
      show lo ≤ (if w.1 = w.1 then z else w.2.1 w.1) ∧ (if w.1 = w.1 then z else w.2.1 w.1) ≤ hi
      rw [hz]; exact ⟨h1, h2⟩
    · have hb := hY.2 i r e1
      by_cases hi : i = w.1
      · exfalso
        have : ∀ (Y : sx_Y) (i : Nat), Y.length ≤ i → sx_ny Y i = none := by
          intro Y
          induction Y with
          | nil => intro i _; rfl
          | cons x t ih =>
            intro i hi
            cases i with
            | zero => simp at hi
            | succ i => exact ih i (by simp at hi; omega)
        rw [this Y i (by rw [← hY.1]; omega)] at e1
        cases e1
      · show r.1 ≤ (if i = w.1 then z else w.2.1 i) ∧ (if i = w.1 then z else w.2.1 i) ≤ r.2
        rw [if_neg hi]; exact hb
  · show Y.length < w.1 + 1
    rw [hY.1]; exact Nat.lt_succ_self _
  · show (if Y.length = w.1 then z else w.2.1 Y.length) = z
    rw [if_pos hY.1.symm]
theorem sx_ff_s {Y : sx_Y} {z : Int} {k : sx_I → sx_Y → Bool} {w : sx_w} (h : sx_ff Y k = true) (hY : sx_RY w Y) (hz : mj_in z) : ∃ w' x Y', sx_e w w' ∧ sx_RY w' Y' ∧ sx_RI w' x z ∧ k x Y' = true :=
  sx_fr_s h hY hz.1 (show z ≤ (2147483647 : Int) from by have := hz.2; omega)
theorem sx_ai_s {Y : sx_Y} {lo hi z : Int} {k : sx_I → sx_Y → Bool} {no : Bool} {w : sx_w} (h : sx_ai Y lo hi k no = true) (hY : sx_RY w Y) (h1 : lo ≤ z) (h2 : z ≤ hi) : (mj_in z ∧ ∃ w' x Y', sx_e w w' ∧ sx_RY w' Y' ∧ sx_RI w' x z ∧ k x Y' = true) ∨ no = true := by
  unfold sx_ai at h
  rw [sx_fi_eq, sx_fi_eq] at h
  cases hin : sx_in lo hi with
  | false => rw [hin] at h; exact Or.inr h
  | true =>
    rw [hin] at h
    refine Or.inl ⟨sx_in_of hin h1 h2, ?_⟩
    cases he : sx_eq lo hi with
    | false => rw [he] at h; exact sx_fr_s h hY h1 h2
    | true =>
      rw [he] at h
      have := sx_eq_iff.mp he
      exact ⟨w, .inl lo, Y, sx_e.rf, hY, (by show lo = z; omega), h⟩
theorem sx_all_s {k : Int → Bool} {z : Int} : ∀ (n : Nat) (lo : Int), sx_all n lo k = true → lo ≤ z → z < lo + n → k z = true
  | 0, lo, _, h1, h2 => by omega
  | n + 1, lo, h, h1, h2 => by
    unfold sx_all at h
    rw [Bool.and_eq_true, sx_fi_eq] at h
    by_cases e : z = lo
    · rw [e]; exact h.1
    · exact sx_all_s n (lo + 1) h.2 (by omega) (by omega)
theorem sx_sp_s {Y : sx_Y} {x : sx_I} {k : Int → sx_Y → Bool} {w : sx_w} {z : Int} (h : sx_sp Y x k = true) (hY : sx_RY w Y) (hx : sx_RI w x z) : ∃ Y', sx_RY w Y' ∧ k z Y' = true := by
  cases x with
  | inl y => exact ⟨Y, hY, by rw [← (show y = z from hx)]; exact h⟩
  | inr i =>
    unfold sx_sp at h
    dsimp only at h
    cases hq : sx_ny Y i with
    | none => rw [hq] at h; cases h
    | some q =>
      rw [hq] at h
      have hb := hY.2 i q hq
      rw [hx.2] at hb
      obtain ⟨-, h2⟩ := sx_cd h
      exact ⟨Y.set i (z, z), hY.set ⟨by rw [hx.2]; exact Int.le_refl _, by rw [hx.2]; exact Int.le_refl _⟩, sx_all_s _ _ h2 hb.1 (by omega)⟩
/-! comparisons -/
theorem sx_may_s {c : ClassFile.Cond} {x y a b c' d : Int} (h : mj_cc c x y) (h1 : a ≤ x) (h2 : x ≤ b) (h3 : c' ≤ y) (h4 : y ≤ d) : sx_may c a b c' d = true := by
  cases c <;> simp only [mj_cc] at h <;> simp only [sx_may]
  · rw [Bool.and_eq_true, sx_le_iff, sx_le_iff]; omega
  · rw [Bool.not_eq_true', Bool.eq_false_iff]
    intro q
    rw [Bool.and_eq_true, Bool.and_eq_true, sx_eq_iff, sx_eq_iff, sx_eq_iff] at q
    omega
  · rw [Bool.not_eq_true', Bool.eq_false_iff]
    intro q; rw [sx_le_iff] at q; omega
  · rw [sx_le_iff]; omega
  · rw [Bool.not_eq_true', Bool.eq_false_iff]
    intro q; rw [sx_le_iff] at q; omega
  · rw [sx_le_iff]; omega
theorem sx_neg_s {c : ClassFile.Cond} {x y : Int} (h : ¬ mj_cc c x y) : mj_cc (sx_neg c) x y := by
  cases c <;> simp only [mj_cc, sx_neg] at h ⊢ <;> omega
theorem sx_swp_s {c : ClassFile.Cond} {x y : Int} (h : mj_cc c x y) : mj_cc (sx_swp c) y x := by
  cases c <;> simp only [mj_cc, sx_swp] at h ⊢ <;> omega
theorem sx_rfn_s {c : ClassFile.Cond} {lo hi z q : Int} (h : mj_cc c z q) (h1 : lo ≤ z) (h2 : z ≤ hi) : (sx_rfn c lo hi q).1 ≤ z ∧ z ≤ (sx_rfn c lo hi q).2 := by
  cases c <;> simp only [mj_cc] at h <;> simp only [sx_rfn]
  · omega
  · constructor
    · cases e : sx_eq lo q with
      | true => have := sx_eq_iff.mp e; simp only [cond_true]; omega
      | false => simp only [cond_false]; omega
    · cases e : sx_eq hi q with
      | true => have := sx_eq_iff.mp e; simp only [cond_true]; omega
      | false => simp only [cond_false]; omega
  · constructor
    · omega
    · cases e : sx_le q hi with
      | true => simp only [cond_true]; omega
      | false => simp only [cond_false]; omega
  · constructor
    · cases e : sx_le lo q with
      | true => simp only [cond_true]; omega
      | false => simp only [cond_false]; omega
    · omega
  · constructor
    · cases e : sx_le lo q with
      | true => simp only [cond_true]; omega
      | false => simp only [cond_false]; omega
    · omega
  · constructor
    · omega
    · cases e : sx_le q hi with
      | true => simp only [cond_true]; omega
      | false => simp only [cond_false]; omega
theorem sx_rf1_s {c : ClassFile.Cond} {Y : sx_Y} {x : sx_I} {lo hi c' d z q : Int} {w : sx_w} (hY : sx_RY w Y) (hx : sx_RI w x z) (h : mj_cc c z q) (h1 : lo ≤ z) (h2 : z ≤ hi) (h3 : c' ≤ q) (h4 : q ≤ d) : sx_RY w (sx_rf1 c Y x lo hi c' d) := by
  cases x with
  | inl y => exact hY
  | inr i =>
    unfold sx_rf1
    cases e : sx_eq c' d with
    | false => exact hY
    | true =>
      have := sx_eq_iff.mp e
      refine hY.set ?_
      rw [hx.2, show c' = q by omega]
      exact sx_rfn_s h h1 h2
theorem sx_br1_s {c : ClassFile.Cond} {Y : sx_Y} {x y : sx_I} {a b c' d zx zy : Int} {k : sx_Y → Bool} {w : sx_w} (h : sx_br1 c Y x y a b c' d k = true) (hY : sx_RY w Y) (hx : sx_RI w x zx) (hy : sx_RI w y zy) (hc : mj_cc c zx zy) (h1 : a ≤ zx) (h2 : zx ≤ b) (h3 : c' ≤ zy) (h4 : zy ≤ d) : ∃ Y', sx_RY w Y' ∧ k Y' = true := by
  have hk := sx_ct h (sx_may_s hc h1 h2 h3 h4)
  cases x with
  | inl u => exact ⟨_, sx_rf1_s hY hy (sx_swp_s hc) h3 h4 h1 h2, hk⟩
  | inr i => exact ⟨_, sx_rf1_s hY hx hc h1 h2 h3 h4, hk⟩
theorem sx_br_s {c : ClassFile.Cond} {Y : sx_Y} {x y : sx_I} {zx zy : Int} {k k' : sx_Y → Bool} {w : sx_w} {A B : Prop} (h : sx_br c Y x y k k' = true) (hY : sx_RY w Y) (hx : sx_RI w x zx) (hy : sx_RI w y zy) (kk : ∀ Y', sx_RY w Y' → k Y' = true → A) (kk' : ∀ Y', sx_RY w Y' → k' Y' = true → B) : mj_br (mj_cc c zx zy) A B := by
  obtain ⟨a, b, h, h1, h2⟩ := sx_iv_s h hY hx
  obtain ⟨c', d, h, h3, h4⟩ := sx_iv_s h hY hy
  obtain ⟨ha, hb⟩ := sx_nd h
  refine ⟨fun q => ?_, fun q => ?_⟩
  · obtain ⟨Y', u1, u2⟩ := sx_br1_s ha hY hx hy q h1 h2 h3 h4
    exact kk Y' u1 u2
  · obtain ⟨Y', u1, u2⟩ := sx_br1_s hb hY hx hy (sx_neg_s q) h1 h2 h3 h4
    exact kk' Y' u1 u2
