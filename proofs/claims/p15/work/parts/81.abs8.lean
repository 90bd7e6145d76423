/-! ===== helpers of the step ===== -/
theorem ab_and_in (x : Int32) (c : Int) (h0 : 0 ≤ c) (h1 : c ≤ 2147483647) : 0 ≤ (x &&& Int32.ofInt c).toInt ∧ (x &&& Int32.ofInt c).toInt ≤ c := by
  have hb : (Int32.ofInt c).toBitVec.toNat = c.toNat := by
    rw [Int32.toBitVec_ofInt, BitVec.toNat_ofInt]
    congr 1
    exact Int.emod_eq_of_lt h0 (by omega)
  have hle : x.toBitVec.toNat &&& c.toNat ≤ c.toNat := Nat.and_le_right
  have e : (x &&& Int32.ofInt c).toInt = ((x.toBitVec.toNat &&& c.toNat : Nat) : Int) := by
    show (x &&& Int32.ofInt c).toBitVec.toInt = _
    rw [Int32.toBitVec_and, BitVec.toInt_eq_toNat_cond, BitVec.toNat_and, hb, if_pos (by omega)]
  rw [e]
  omega
theorem ab_psh_s {c : ab_co} {y i : Nat} {Y : ab_Y} {x : ab_I} {k : ab_I → ab_Y → Bool} {w : ab_wd} {z : Int} (h : ab_psh c y i Y x k = true) (hY : ab_RY w Y) (hx : ab_RI w x z) : ∃ x' Y', ab_RY w Y' ∧ ab_RI w x' z ∧ k x' Y' = true := by
  unfold ab_psh at h
  split at h
  · exact ⟨_, Y, hY, ab_nr_s hY hx, h⟩
  · rename_i l _
    cases hc : (ab_sl c).any (fun q => Nat.beq q.1 y && Nat.beq q.2 i) with
    | true =>
      rw [hc] at h
      obtain ⟨Y', h1, h2⟩ := ab_spl_s h hY hx
      exact ⟨.inl z, Y', h1, rfl, h2⟩
    | false =>
      rw [hc] at h
      exact ⟨_, Y, hY, ab_nr_s hY hx, h⟩
theorem ab_bit_s {w : ab_wd} {Y : ab_Y} {E : ab_E} {st : List ab_V} {st' : List mj_V} {an : Bool} {g : Int32 → Int32 → Int32} {k : ab_I → ab_Y → ab_E → List ab_V → Bool} {k' : List mj_V → Prop} (h : ab_bit Y E st an g k = true) (hS : ab_RS w st st') (hY : ab_RY w Y) (hE : ab_RE w E) (hg : an = true → g = fun x y => x &&& y) (kk : ∀ w' x z Y' E' t t', ab_ey w w' → ab_RY w' Y' → ab_RI w' x z → ab_RE w' E' → ab_RS w' t t' → k x Y' E' t = true → k' (.inl z :: t')) : mj_op st' g k' := by
  obtain ⟨y, t, zy, t', rfl, hy, hS, h⟩ := ab_i1_s h hS
  obtain ⟨x, t, zx, t', rfl, hx, hS, h⟩ := ab_i1_s h hS
  obtain ⟨a, b, h, l1, l2⟩ := ab_iv_s h hY hx
  obtain ⟨c, d, h, l3, l4⟩ := ab_iv_s h hY hy
  intro z hz hz2
  have any : ab_ff Y (fun v Y => k v Y E t) = true → k' (.inl z :: t') := fun h => by
    obtain ⟨w1, v, Y1, u1, u2, u3, u4⟩ := ab_ff_s h hY hz
    exact kk w1 v z Y1 E t t' u1 u2 u3 (hE.up u1.1) (hS.up u1.1) u4
  cases hcd : sx_eq c d with
  | false => rw [hcd] at h; exact any h
  | true =>
    rw [hcd] at h
    dsimp only [cond_true] at h
    have ecd := sx_eq_iff.mp hcd
    have ey : zy = c := by omega
    cases hab : sx_eq a b with
    | true =>
      rw [hab] at h
      dsimp only [cond_true] at h
      rw [sx_fi_eq] at h
      have eab := sx_eq_iff.mp hab
      have ex : zx = a := by omega
      rw [ex, ey] at hz2
      exact kk w (.inl (g (Int32.ofInt a) (Int32.ofInt c)).toInt) z Y E t t' ab_ey.rf hY hz2.symm hE hS h
    | false =>
      rw [hab] at h
      dsimp only [cond_false] at h
      cases hc : (an && (sx_le (.ofNat 0) c && sx_le c (.ofNat 2147483647))) with
      | false => rw [hc] at h; exact any h
      | true =>
        rw [hc] at h
        dsimp only [cond_true] at h
        obtain ⟨c1, hc⟩ := sx_nd hc
        obtain ⟨c2, c3⟩ := sx_nd hc
        have c2 : 0 ≤ c := sx_le_iff.mp c2
        have c3 : c ≤ 2147483647 := sx_le_iff.mp c3
        rw [hg c1] at hz2
        dsimp only at hz2
        rw [ey] at hz2
        cases hf : E.find? (fun e => ab_ie e.1 x && sx_eq e.2.1 c) with
        | some e =>
          rw [hf] at h
          dsimp only at h
          have f1 := List.find?_some hf
          have f2 := List.mem_of_find?_eq_some hf
          obtain ⟨f3, f4⟩ := sx_nd f1
          obtain ⟨z0, g1, g2⟩ := hE e f2
          have e0 : z0 = zx := ab_RI.fn (ab_ie_s f3 g1) hx
          rw [e0, sx_eq_iff.mp f4, ← hz2] at g2
          exact kk w _ z Y E t t' ab_ey.rf hY g2 hE hS h
        | none =>
          rw [hf] at h
          dsimp only at h
          obtain ⟨b1, b2⟩ := ab_and_in (Int32.ofInt zx) c c2 c3
          obtain ⟨w1, v, Y1, u1, u2, u3, u4⟩ := ab_fr_s (z := z) h hY (by rw [hz2]; exact b1) (by rw [hz2]; exact b2) (fun r hr => by cases hr)
          refine kk w1 v z Y1 _ t t' u1 u2 u3 (fun e he => ?_) (hS.up u1.1) u4
          rcases List.mem_cons.mp he with rfl | he
          · exact ⟨zx, hx.up u1.1, by rw [← hz2]; exact u3⟩
          · exact (hE.up u1.1) e he
theorem ab_bm1 {x : Int} (h1 : -2147483648 ≤ x) (h2 : x ≤ 2147483647) : x.bmod (2 ^ 32) = x := Int.bmod_eq_of_le (by simp; omega) (by simp; omega)
theorem ab_un_s {w : ab_wd} {Y : ab_Y} {st : List ab_V} {st' : List mj_V} {ng : Bool} {g : Int32 → Int32} {k : ab_I → ab_Y → List ab_V → Bool} {k' : List mj_V → Prop} (h : ab_un Y st ng g k = true) (hS : ab_RS w st st') (hY : ab_RY w Y) (hg : (ng = true → g = fun x => -x) ∧ (ng = false → g = fun x => x.toInt8.toInt32)) (kk : ∀ w' x z Y' t t', ab_ey w w' → ab_RY w' Y' → ab_RI w' x z → ab_RS w' t t' → k x Y' t = true → k' (.inl z :: t')) : mj_un st' g k' := by
  obtain ⟨x, t, zx, t', rfl, hx, hS, h⟩ := ab_i1_s h hS
  obtain ⟨a, b, h, l1, l2⟩ := ab_iv_s h hY hx
  intro z hz hz2
  have fin : ab_ok3 w (fun v Y => k v Y t) z → k' (.inl z :: t') := fun h => by
    obtain ⟨w1, v, Y1, u1, u2, u3, u4⟩ := h
    exact kk w1 v z Y1 t t' u1 u2 u3 (hS.up u1.1) u4
  cases hab : sx_eq a b with
  | true =>
    rw [hab] at h
    dsimp only [cond_true] at h
    rw [sx_fi_eq] at h
    have eab := sx_eq_iff.mp hab
    have ex : zx = a := by omega
    rw [ex] at hz2
    exact fin (ab_hc hY hz2.symm h)
  | false =>
    rw [hab] at h
    dsimp only [cond_false] at h
    cases ng with
    | true =>
      dsimp only [cond_true] at h
      cases hin : (sx_in (-b) (-a) && sx_in a b) with
      | false => rw [hin] at h; exact fin (ab_ff_s h hY hz)
      | true =>
        rw [hin] at h
        obtain ⟨i1, i2⟩ := sx_nd hin
        have m1 := sx_in_of i2 l1 l2
        have m2 : mj_in (-zx) := sx_in_of i1 (by omega) (by omega)
        rw [hg.1 rfl] at hz2
        dsimp only at hz2
        have e : z = -zx := by
          rw [hz2, Int32.toInt_neg, mj_ti m1]
          exact ab_bm1 m2.1 (by have := m2.2; omega)
        exact fin (ab_fr_s h hY (by omega) (by omega) (fun r hr => by cases hr))
    | false =>
      dsimp only [cond_false] at h
      rw [hg.2 rfl] at hz2
      dsimp only at hz2
      rw [Int8.toInt_toInt32] at hz2
      have b1 := Int8.le_toInt (Int32.ofInt zx).toInt8
      have b2 := Int8.toInt_lt (Int32.ofInt zx).toInt8
      refine fin (ab_fr_s h hY (show (-128 : Int) ≤ z from ?_) (show z ≤ (127 : Int) from ?_) (fun r hr => by cases hr))
      · rw [hz2]; omega
      · rw [hz2]; omega
theorem ab_nb {z : Int} : -128 ≤ mj_nb z ∧ mj_nb z ≤ 127 := by
  unfold mj_nb
  rw [Int8.toInt_toInt32]
  have b1 := Int8.le_toInt (Int32.ofInt z).toInt8
  have b2 := Int8.toInt_lt (Int32.ofInt z).toInt8
  omega
theorem ab_nb1 {z : Int} (h1 : -128 ≤ z) (h2 : z ≤ 127) : mj_nb z = z := by
  unfold mj_nb
  rw [Int8.toInt_toInt32, Int32.toInt_toInt8, mj_ti ⟨by omega, by omega⟩]
  exact Int.bmod_eq_of_le (by simp; omega) (by simp; omega)
theorem ab_quo {x y : Int} (hx : mj_in x) (hy : mj_in y) (h1 : 1 ≤ y) : (Int32.ofInt x / Int32.ofInt y).toInt = x.tdiv y := by
  rw [Int32.toInt_div_of_ne_right, mj_ti hx, mj_ti hy]
  intro e
  have e2 := congrArg Int32.toInt e
  rw [mj_ti hy] at e2
  have e3 : (-1 : Int32).toInt = -1 := by decide
  omega
theorem ab_td {x y : Int} (h1 : 1 ≤ y) : (0 ≤ x → 0 ≤ x.tdiv y * y ∧ x.tdiv y * y ≤ x ∧ x - x.tdiv y * y < y) ∧ (x < 0 → x.tdiv y * y ≤ 0 ∧ x ≤ x.tdiv y * y ∧ x.tdiv y * y - x < y) := by
  have pos : ∀ n : Int, 0 ≤ n → 0 ≤ n.tdiv y * y ∧ n.tdiv y * y ≤ n ∧ n - n.tdiv y * y < y := fun n hn => by
    rw [Int.tdiv_eq_ediv_of_nonneg hn]
    have e := Int.emod_def n y
    have e1 := Int.emod_nonneg n (show y ≠ 0 by omega)
    have e2 := Int.emod_lt_of_pos n (show 0 < y by omega)
    have e3 : 0 ≤ n / y := Int.ediv_nonneg hn (by omega)
    have e4 : 0 ≤ n / y * y := Int.mul_nonneg e3 (by omega)
    rw [Int.mul_comm] at e
    omega
  refine ⟨fun hx => pos x hx, fun hx => ?_⟩
  have p := pos (-x) (by omega)
  rw [Int.neg_tdiv, Int.neg_mul] at p
  omega
theorem ab_dv_s {w : ab_wd} {Y : ab_Y} {st : List ab_V} {st' : List mj_V} {rm : Bool} {g : Int32 → Int32 → Int32} {k : ab_I → ab_Y → List ab_V → Bool} {k' : List mj_V → Prop} (h : ab_dv Y st rm k = true) (hS : ab_RS w st st') (hY : ab_RY w Y) (hg : (rm = true → g = fun x y => x - x / y * y) ∧ (rm = false → g = fun x y => x / y)) (kk : ∀ w' x z Y' t t', ab_ey w w' → ab_RY w' Y' → ab_RI w' x z → ab_RS w' t t' → k x Y' t = true → k' (.inl z :: t')) : mj_dv st' g k' := by
  obtain ⟨y, t, zy, t', rfl, hy, hS, h⟩ := ab_i1_s h hS
  obtain ⟨x, t, zx, t', rfl, hx, hS, h⟩ := ab_i1_s h hS
  obtain ⟨a, b, h, l1, l2⟩ := ab_iv_s h hY hx
  obtain ⟨c, d, h, l3, l4⟩ := ab_iv_s h hY hy
  obtain ⟨hc, h⟩ := sx_cd h
  obtain ⟨c1, hc⟩ := sx_nd hc
  obtain ⟨c2, c3⟩ := sx_nd hc
  have c1 : 1 ≤ c := sx_le_iff.mp c1
  have mx := sx_in_of c2 l1 l2
  have my := sx_in_of c3 l3 l4
  refine ⟨by omega, fun z hz hz2 => ?_⟩
  have fin : ab_ok3 w (fun v Y => k v Y t) z → k' (.inl z :: t') := fun h => by
    obtain ⟨w1, v, Y1, u1, u2, u3, u4⟩ := h
    exact kk w1 v z Y1 t t' u1 u2 u3 (hS.up u1.1) u4
  have q := ab_quo mx my (by omega)
  obtain ⟨td1, td2⟩ := ab_td (x := zx) (y := zy) (by omega)
  cases rm with
  | false =>
    rw [hg.2 rfl] at hz2
    dsimp only at hz2
    rw [q] at hz2
    cases ha : sx_le (.ofNat 0) a with
    | false => rw [ha] at h; exact fin (ab_ff_s h hY hz)
    | true =>
      rw [ha] at h
      have ha : 0 ≤ a := sx_le_iff.mp ha
      have e : z = zx / zy := by rw [hz2, Int.tdiv_eq_ediv_of_nonneg (by omega)]
      refine fin (ab_fr_s h hY ?_ ?_ (fun r hr => by cases hr))
      · rw [e]
        refine Int.le_ediv_of_mul_le (by omega) ?_
        have n1 : 0 ≤ a / d := Int.ediv_nonneg ha (by omega)
        have n2 : a / d * zy ≤ a / d * d := Int.mul_le_mul_of_nonneg_left l4 n1
        have n3 : a / d * d ≤ a := Int.ediv_mul_le a (by omega)
        omega
      · rw [e]
        refine Int.le_ediv_of_mul_le (by omega) ?_
        have n1 : 0 ≤ zx / zy := Int.ediv_nonneg (by omega) (by omega)
        have n2 : zx / zy * c ≤ zx / zy * zy := Int.mul_le_mul_of_nonneg_left l3 n1
        have n3 : zx / zy * zy ≤ zx := Int.ediv_mul_le zx (by omega)
        omega
  | true =>
    rw [hg.1 rfl] at hz2
    dsimp only at hz2
    have mx1 := mx.1
    have mx2 := mx.2
    have my2 := my.2
    have e : z = zx - zx.tdiv zy * zy := by
      rw [hz2, Int32.toInt_sub, Int32.toInt_mul, q, mj_ti mx, mj_ti my]
      rcases Int.lt_or_le zx 0 with hn | hn
      · have := td2 hn
        rw [ab_bm1 (x := zx.tdiv zy * zy) (by omega) (by omega)]
        exact ab_bm1 (by omega) (by omega)
      · have := td1 hn
        rw [ab_bm1 (x := zx.tdiv zy * zy) (by omega) (by omega)]
        exact ab_bm1 (by omega) (by omega)
    cases ha : sx_le (.ofNat 0) a with
    | true =>
      rw [ha] at h
      dsimp only [cond_true] at h
      have ha : 0 ≤ a := sx_le_iff.mp ha
      have td := td1 (by omega)
      refine fin (ab_fr_s h hY (show (0 : Int) ≤ z from ?_) ?_ (fun r hr => by cases hr))
      · omega
      · rcases ab_mn_or b (d - 1) with g | g <;> rw [g] <;> omega
    | false =>
      rw [ha] at h
      dsimp only [cond_true, cond_false] at h
      refine fin (ab_fr_s h hY ?_ ?_ (fun r hr => by cases hr))
      · rcases Int.lt_or_le zx 0 with hn | hn
        · have := td2 hn; omega
        · have := td1 hn; omega
      · rcases Int.lt_or_le zx 0 with hn | hn
        · have := td2 hn; omega
        · have := td1 hn; omega
theorem ab_tf_s {Y : ab_Y} {x : ab_I} {w : ab_wd} {z : Int} (h : ab_tf Y x = true) (hY : ab_RY w Y) (hx : ab_RI w x z) : z = 0 ∨ z = 1 := by
  obtain ⟨lo, hi, h, h1, h2⟩ := ab_iv_s h hY hx
  obtain ⟨h3, h4⟩ := sx_nd h
  have h3 : 0 ≤ lo := sx_le_iff.mp h3
  have h4 : hi ≤ 1 := sx_le_iff.mp h4
  omega
theorem ab_kn_s {Y : ab_Y} {x : ab_I} {k : Int → Bool} {w : ab_wd} {z : Int} (h : ab_kn Y x k = true) (hY : ab_RY w Y) (hx : ab_RI w x z) : k z = true := by
  obtain ⟨lo, hi, h1, h2, h3⟩ := ab_iv_s h hY hx
  obtain ⟨h4, h5⟩ := sx_cd h1
  have := sx_eq_iff.mp h4
  rw [show z = lo by omega]; exact h5
theorem ab_swt_s {Y : ab_Y} {x : ab_I} {lo hi z : Int} {k : Nat → ab_Y → Bool} {k' : Nat → Prop} {w : ab_wd} (hY : ab_RY w Y) (hx : ab_RI w x z) (h1 : lo ≤ z) (h2 : z ≤ hi) (kk : ∀ t Y', ab_RY w Y' → k t Y' = true → k' t) : ∀ (ts : List Nat) (v : Int), ab_swt Y x lo hi k v ts = true → mj_sw z k' v ts
  | [], _, _ => trivial
  | t :: ts, v, h => by
    unfold ab_swt at h
    obtain ⟨g1, g2⟩ := sx_nd h
    rw [sx_fi_eq] at g2
    refine ⟨fun e => ?_, ab_swt_s hY hx h1 h2 kk ts (v + 1) g2⟩
    have hc : (sx_le lo v && sx_le v hi) = true := by rw [Bool.and_eq_true, sx_le_iff, sx_le_iff]; omega
    have g1 := sx_ct g1 hc
    obtain ⟨Y', u1, u2⟩ := ab_rf1_s (cd := .eq) g1 hY hx (show z = v from e) (Int.le_refl _) (Int.le_refl _)
    exact kk t Y' u1 u2
