section
/-! ===== helpers of the step ===== -/
theorem ab_and_in (x : Int32) (c : Int) (h0 : 0 ≤ c) (h1 : c ≤ 2147483647) : 0 ≤ (x &&& Int32.ofInt c).toInt ∧ (x &&& Int32.ofInt c).toInt ≤ c := by
  have hb : (Int32.ofInt c).toBitVec.toNat = c.toNat := by
    rw [Int32.toBitVec_ofInt, BitVec.toNat_ofInt]
    congr 1
    exact Int.emod_eq_of_lt h0 (by omega)
  have hle : x.toBitVec.toNat &&& c.toNat ≤ c.toNat := Nat.and_le_right
  have e : (x &&& Int32.ofInt c).toInt = ((x.toBitVec.toNat &&& c.toNat : Nat) : Int) := by
    show (x &&& Int32.ofInt c).toBitVec.toInt = _
    rw [Int32.toBitVec_and, BitVec.toInt_eq_toNat_cond, BitVec.toNat_and, hb, if_pos (by omega)]
  rw [e]
  omega
theorem ab_psh_s {c : ab_co} {y i : Nat} {Y : ab_Y} {x : ab_I} {k : ab_I → ab_Y → Bool} {w : ab_wd} {z : Int} (h : ab_psh c y i Y x k = true) (hY : ab_RY w Y) (hx : ab_RI w x z) : ∃ x' Y', ab_RY w Y' ∧ ab_RI w x' z ∧ k x' Y' = true := by
  unfold ab_psh at h
  split at h
  · exact ⟨_, Y, hY, ab_nr_s hY hx, h⟩
  · rename_i l _
    cases hc : (ab_sl c).any (fun q => Nat.beq q.1 y && Nat.beq q.2 i) with
    | true =>
      rw [hc] at h
      obtain ⟨Y', h1, h2⟩ := ab_spl_s h hY hx
      exact ⟨.inl z, Y', h1, rfl, h2⟩
    | false =>
      rw [hc] at h
      exact ⟨_, Y, hY, ab_nr_s hY hx, h⟩
theorem ab_bit_s {w : ab_wd} {Y : ab_Y} {E : ab_E} {st : List ab_V} {st' : List mj_V} {an : Bool} {g : Int32 → Int32 → Int32} {k : ab_I → ab_Y → ab_E → List ab_V → Bool} {k' : List mj_V → Prop} (h : ab_bit Y E st an g k = true) (hS : ab_RS w st st') (hY : ab_RY w Y) (hE : ab_RE w E) (hg : an = true → g = fun x y => x &&& y) (kk : ∀ w' x z Y' E' t t', ab_ey w w' → ab_RY w' Y' → ab_RI w' x z → ab_RE w' E' → ab_RS w' t t' → k x Y' E' t = true → k' (.inl z :: t')) : mj_op st' g k' := by
  obtain ⟨y, t, zy, t', rfl, hy, hS, h⟩ := ab_i1_s h hS
  obtain ⟨x, t, zx, t', rfl, hx, hS, h⟩ := ab_i1_s h hS
  obtain ⟨a, b, h, l1, l2⟩ := ab_iv_s h hY hx
  obtain ⟨c, d, h, l3, l4⟩ := ab_iv_s h hY hy
  intro z hz hz2
  have any : ab_ff Y (fun v Y => k v Y E t) = true → k' (.inl z :: t') := fun h => by
    obtain ⟨w1, v, Y1, u1, u2, u3, u4⟩ := ab_ff_s h hY hz
    exact kk w1 v z Y1 E t t' u1 u2 u3 (hE.up u1.1) (hS.up u1.1) u4
  cases hcd : sx_eq c d with
  | false => rw [hcd] at h; exact any h
  | true =>
    rw [hcd] at h
    dsimp only [cond_true] at h
    have ecd := sx_eq_iff.mp hcd
    have ey : zy = c := by omega
    cases hab : sx_eq a b with
    | true =>
      rw [hab] at h
      dsimp only [cond_true] at h
      rw [sx_fi_eq] at h
      have eab := sx_eq_iff.mp hab
      have ex : zx = a := by omega
      rw [ex, ey] at hz2
      exact kk w (.inl (g (Int32.ofInt a) (Int32.ofInt c)).toInt) z Y E t t' ab_ey.rf hY hz2.symm hE hS h
    | false =>
      rw [hab] at h
      dsimp only [cond_false] at h
      cases hc : (an && (sx_le (.ofNat 0) c && sx_le c (.ofNat 2147483647))) with
      | false => rw [hc] at h; exact any h
      | true =>
        rw [hc] at h
        dsimp only [cond_true] at h
        obtain ⟨c1, hc⟩ := sx_nd hc
        obtain ⟨c2, c3⟩ := sx_nd hc
        have c2 : 0 ≤ c := sx_le_iff.mp c2
        have c3 : c ≤ 2147483647 := sx_le_iff.mp c3
        rw [hg c1] at hz2
        dsimp only at hz2
        rw [ey] at hz2
        cases hf : E.find? (fun e => ab_ie e.1 x && sx_eq e.2.1 c) with
        | some e =>
          rw [hf] at h
          dsimp only at h
          have f1 := List.find?_some hf
          have f2 := List.mem_of_find?_eq_some hf
          obtain ⟨f3, f4⟩ := sx_nd f1
          obtain ⟨z0, g1, g2⟩ := hE e f2
          have e0 : z0 = zx := ab_RI.fn (ab_ie_s f3 g1) hx
          rw [e0, sx_eq_iff.mp f4, ← hz2] at g2
          exact kk w _ z Y E t t' ab_ey.rf hY g2 hE hS h
        | none =>
          rw [hf] at h
          dsimp only at h
          obtain ⟨b1, b2⟩ := ab_and_in (Int32.ofInt zx) c c2 c3
          obtain ⟨w1, v, Y1, u1, u2, u3, u4⟩ := ab_fr_s (z := z) h hY (by rw [hz2]; exact b1) (by rw [hz2]; exact b2) (fun r hr => by cases hr)
          refine kk w1 v z Y1 _ t t' u1 u2 u3 (fun e he => ?_) (hS.up u1.1) u4
          rcases List.mem_cons.mp he with rfl | he
          · exact ⟨zx, hx.up u1.1, by rw [← hz2]; exact u3⟩
          · exact (hE.up u1.1) e he
theorem ab_bm1 {x : Int} (h1 : -2147483648 ≤ x) (h2 : x ≤ 2147483647) : x.bmod (2 ^ 32) = x := Int.bmod_eq_of_le (by simp; omega) (by simp; omega)
theorem ab_un_s {w : ab_wd} {Y : ab_Y} {st : List ab_V} {st' : List mj_V} {ng : Bool} {g : Int32 → Int32} {k : ab_I → ab_Y → List ab_V → Bool} {k' : List mj_V → Prop} (h : ab_un Y st ng g k = true) (hS : ab_RS w st st') (hY : ab_RY w Y) (hg : (ng = true → g = fun x => -x) ∧ (ng = false → g = fun x => x.toInt8.toInt32)) (kk : ∀ w' x z Y' t t', ab_ey w w' → ab_RY w' Y' → ab_RI w' x z → ab_RS w' t t' → k x Y' t = true → k' (.inl z :: t')) : mj_un st' g k' := by
  obtain ⟨x, t, zx, t', rfl, hx, hS, h⟩ := ab_i1_s h hS
  obtain ⟨a, b, h, l1, l2⟩ := ab_iv_s h hY hx
  intro z hz hz2
  have fin : ab_ok3 w (fun v Y => k v Y t) z → k' (.inl z :: t') := fun h => by
    obtain ⟨w1, v, Y1, u1, u2, u3, u4⟩ := h
    exact kk w1 v z Y1 t t' u1 u2 u3 (hS.up u1.1) u4
  cases hab : sx_eq a b with
  | true =>
    rw [hab] at h
    dsimp only [cond_true] at h
    rw [sx_fi_eq] at h
    have eab := sx_eq_iff.mp hab
    have ex : zx = a := by omega
    rw [ex] at hz2
    exact fin (ab_hc hY hz2.symm h)
  | false =>
    rw [hab] at h
    dsimp only [cond_false] at h
    cases ng with
    | true =>
      dsimp only [cond_true] at h
      cases hin : (sx_in (-b) (-a) && sx_in a b) with
      | false => rw [hin] at h; exact fin (ab_ff_s h hY hz)
      | true =>
        rw [hin] at h
        obtain ⟨i1, i2⟩ := sx_nd hin
        have m1 := sx_in_of i2 l1 l2
        have m2 : mj_in (-zx) := sx_in_of i1 (by omega) (by omega)
        rw [hg.1 rfl] at hz2
        dsimp only at hz2
        have e : z = -zx := by
          rw [hz2, Int32.toInt_neg, mj_ti m1]
          exact ab_bm1 m2.1 (by have := m2.2; omega)
        exact fin (ab_fr_s h hY (by omega) (by omega) (fun r hr => by cases hr))
    | false =>
      dsimp only [cond_false] at h
      rw [hg.2 rfl] at hz2
      dsimp only at hz2
      rw [Int8.toInt_toInt32] at hz2
      have b1 := Int8.le_toInt (Int32.ofInt zx).toInt8
      have b2 := Int8.toInt_lt (Int32.ofInt zx).toInt8
      refine fin (ab_fr_s h hY (show (-128 : Int) ≤ z from ?_) (show z ≤ (127 : Int) from ?_) (fun r hr => by cases hr))
      · rw [hz2]; omega
      · rw [hz2]; omega
theorem ab_nb {z : Int} : -128 ≤ mj_nb z ∧ mj_nb z ≤ 127 := by
  unfold mj_nb
  rw [Int8.toInt_toInt32]
  have b1 := Int8.le_toInt (Int32.ofInt z).toInt8
  have b2 := Int8.toInt_lt (Int32.ofInt z).toInt8
  omega
theorem ab_nb1 {z : Int} (h1 : -128 ≤ z) (h2 : z ≤ 127) : mj_nb z = z := by
  unfold mj_nb
  rw [Int8.toInt_toInt32, Int32.toInt_toInt8, mj_ti ⟨by omega, by omega⟩]
  exact Int.bmod_eq_of_le (by simp; omega) (by simp; omega)
theorem ab_quo {x y : Int} (hx : mj_in x) (hy : mj_in y) (h1 : 1 ≤ y) : (Int32.ofInt x / Int32.ofInt y).toInt = x.tdiv y := by
  rw [Int32.toInt_div_of_ne_right, mj_ti hx, mj_ti hy]
  intro e
  have e2 := congrArg Int32.toInt e
  rw [mj_ti hy] at e2
  have e3 : (-1 : Int32).toInt = -1 := by decide
  omega
theorem ab_td {x y : Int} (h1 : 1 ≤ y) : (0 ≤ x → 0 ≤ x.tdiv y * y ∧ x.tdiv y * y ≤ x ∧ x - x.tdiv y * y < y) ∧ (x < 0 → x.tdiv y * y ≤ 0 ∧ x ≤ x.tdiv y * y ∧ x.tdiv y * y - x < y) := by
  have pos : ∀ n : Int, 0 ≤ n → 0 ≤ n.tdiv y * y ∧ n.tdiv y * y ≤ n ∧ n - n.tdiv y * y < y := fun n hn => by
    rw [Int.tdiv_eq_ediv_of_nonneg hn]
    have e := Int.emod_def n y
    have e1 := Int.emod_nonneg n (show y ≠ 0 by omega)
    have e2 := Int.emod_lt_of_pos n (show 0 < y by omega)
    have e3 : 0 ≤ n / y := Int.ediv_nonneg hn (by omega)
    have e4 : 0 ≤ n / y * y := Int.mul_nonneg e3 (by omega)
    rw [Int.mul_comm] at e
    omega
  refine ⟨fun hx => pos x hx, fun hx => ?_⟩
  have p := pos (-x) (by omega)
  rw [Int.neg_tdiv, Int.neg_mul] at p
  omega
theorem ab_dv_s {w : ab_wd} {Y : ab_Y} {st : List ab_V} {st' : List mj_V} {rm : Bool} {g : Int32 → Int32 → Int32} {k : ab_I → ab_Y → List ab_V → Bool} {k' : List mj_V → Prop} (h : ab_dv Y st rm k = true) (hS : ab_RS w st st') (hY : ab_RY w Y) (hg : (rm = true → g = fun x y => x - x / y * y) ∧ (rm = false → g = fun x y => x / y)) (kk : ∀ w' x z Y' t t', ab_ey w w' → ab_RY w' Y' → ab_RI w' x z → ab_RS w' t t' → k x Y' t = true → k' (.inl z :: t')) : mj_dv st' g k' := by
  obtain ⟨y, t, zy, t', rfl, hy, hS, h⟩ := ab_i1_s h hS
  obtain ⟨x, t, zx, t', rfl, hx, hS, h⟩ := ab_i1_s h hS
  obtain ⟨a, b, h, l1, l2⟩ := ab_iv_s h hY hx
  obtain ⟨c, d, h, l3, l4⟩ := ab_iv_s h hY hy
  obtain ⟨hc, h⟩ := sx_cd h
  obtain ⟨c1, hc⟩ := sx_nd hc
  obtain ⟨c2, c3⟩ := sx_nd hc
  have c1 : 1 ≤ c := sx_le_iff.mp c1
  have mx := sx_in_of c2 l1 l2
  have my := sx_in_of c3 l3 l4
  refine ⟨by omega, fun z hz hz2 => ?_⟩
  have fin : ab_ok3 w (fun v Y => k v Y t) z → k' (.inl z :: t') := fun h => by
    obtain ⟨w1, v, Y1, u1, u2, u3, u4⟩ := h
    exact kk w1 v z Y1 t t' u1 u2 u3 (hS.up u1.1) u4
  have q := ab_quo mx my (by omega)
  obtain ⟨td1, td2⟩ := ab_td (x := zx) (y := zy) (by omega)
  cases rm with
  | false =>
    rw [hg.2 rfl] at hz2
    dsimp only at hz2
    rw [q] at hz2
    cases ha : sx_le (.ofNat 0) a with
    | false => rw [ha] at h; exact fin (ab_ff_s h hY hz)
    | true =>
      rw [ha] at h
      have ha : 0 ≤ a := sx_le_iff.mp ha
      have e : z = zx / zy := by rw [hz2, Int.tdiv_eq_ediv_of_nonneg (by omega)]
      refine fin (ab_fr_s h hY ?_ ?_ (fun r hr => by cases hr))
      · rw [e]
        refine Int.le_ediv_of_mul_le (by omega) ?_
        have n1 : 0 ≤ a / d := Int.ediv_nonneg ha (by omega)
        have n2 : a / d * zy ≤ a / d * d := Int.mul_le_mul_of_nonneg_left l4 n1
        have n3 : a / d * d ≤ a := Int.ediv_mul_le a (by omega)
        omega
      · rw [e]
        refine Int.le_ediv_of_mul_le (by omega) ?_
        have n1 : 0 ≤ zx / zy := Int.ediv_nonneg (by omega) (by omega)
        have n2 : zx / zy * c ≤ zx / zy * zy := Int.mul_le_mul_of_nonneg_left l3 n1
        have n3 : zx / zy * zy ≤ zx := Int.ediv_mul_le zx (by omega)
        omega
  | true =>
    rw [hg.1 rfl] at hz2
    dsimp only at hz2
    have mx1 := mx.1
    have mx2 := mx.2
    have my2 := my.2
    have e : z = zx - zx.tdiv zy * zy := by
      rw [hz2, Int32.toInt_sub, Int32.toInt_mul, q, mj_ti mx, mj_ti my]
      rcases Int.lt_or_le zx 0 with hn | hn
      · have := td2 hn
        rw [ab_bm1 (x := zx.tdiv zy * zy) (by omega) (by omega)]
        exact ab_bm1 (by omega) (by omega)
      · have := td1 hn
        rw [ab_bm1 (x := zx.tdiv zy * zy) (by omega) (by omega)]
        exact ab_bm1 (by omega) (by omega)
    cases ha : sx_le (.ofNat 0) a with
    | true =>
      rw [ha] at h
      dsimp only [cond_true] at h
      have ha : 0 ≤ a := sx_le_iff.mp ha
      have td := td1 (by omega)
      refine fin (ab_fr_s h hY (show (0 : Int) ≤ z from ?_) ?_ (fun r hr => by cases hr))
      · omega
      · rcases ab_mn_or b (d - 1) with g | g <;> rw [g] <;> omega
    | false =>
      rw [ha] at h
      dsimp only [cond_true, cond_false] at h
      refine fin (ab_fr_s h hY ?_ ?_ (fun r hr => by cases hr))
      · rcases Int.lt_or_le zx 0 with hn | hn
        · have := td2 hn; omega
        · have := td1 hn; omega
      · rcases Int.lt_or_le zx 0 with hn | hn
        · have := td2 hn; omega
        · have := td1 hn; omega
theorem ab_tf_s {Y : ab_Y} {x : ab_I} {w : ab_wd} {z : Int} (h : ab_tf Y x = true) (hY : ab_RY w Y) (hx : ab_RI w x z) : z = 0 ∨ z = 1 := by
  obtain ⟨lo, hi, h, h1, h2⟩ := ab_iv_s h hY hx
  obtain ⟨h3, h4⟩ := sx_nd h
  have h3 : 0 ≤ lo := sx_le_iff.mp h3
  have h4 : hi ≤ 1 := sx_le_iff.mp h4
  omega
theorem ab_kn_s {Y : ab_Y} {x : ab_I} {k : Int → Bool} {w : ab_wd} {z : Int} (h : ab_kn Y x k = true) (hY : ab_RY w Y) (hx : ab_RI w x z) : k z = true := by
  obtain ⟨lo, hi, h1, h2, h3⟩ := ab_iv_s h hY hx
  obtain ⟨h4, h5⟩ := sx_cd h1
  have := sx_eq_iff.mp h4
  rw [show z = lo by omega]; exact h5
theorem ab_swt_s {Y : ab_Y} {x : ab_I} {lo hi z : Int} {k : Nat → ab_Y → Bool} {k' : Nat → Prop} {w : ab_wd} (hY : ab_RY w Y) (hx : ab_RI w x z) (h1 : lo ≤ z) (h2 : z ≤ hi) (kk : ∀ t Y', ab_RY w Y' → k t Y' = true → k' t) : ∀ (ts : List Nat) (v : Int), ab_swt Y x lo hi k v ts = true → mj_sw z k' v ts
  | [], _, _ => trivial
  | t :: ts, v, h => by
    unfold ab_swt at h
    obtain ⟨g1, g2⟩ := sx_nd h
    rw [sx_fi_eq] at g2
    refine ⟨fun e => ?_, ab_swt_s hY hx h1 h2 kk ts (v + 1) g2⟩
    have hc : (sx_le lo v && sx_le v hi) = true := by rw [Bool.and_eq_true, sx_le_iff, sx_le_iff]; omega
    have g1 := sx_ct g1 hc
    obtain ⟨Y', u1, u2⟩ := ab_rf1_s (cd := .eq) g1 hY hx (show z = v from e) (Int.le_refl _) (Int.le_refl _)
    exact kk t Y' u1 u2
end
section
/-! ===== fields, arrays, the library, calls, what comes back, arrivals ===== -/
theorem ab_obj {t ci : Nat} (h : ((Nat.beq t (1001 + ci) || (Nat.beq t 2010 && Nat.beq ci 9)) && Nat.blt ci 90) = true) : t ≠ 0 ∧ t ≠ 1 ∧ t ≠ 50 ∧ t % 1000 = ci + 1 ∧ t < 900000 := by
  obtain ⟨h1, h2⟩ := sx_nd h
  have h2 := sx_blt h2
  rcases (Bool.or_eq_true _ _).mp h1 with h1 | h1
  · have h1 : t = 1001 + ci := sx_beq h1
    omega
  · obtain ⟨h1, h3⟩ := sx_nd h1
    have h1 : t = 2010 := sx_beq h1
    have h3 : ci = 9 := sx_beq h3
    omega
theorem ab_RV.r {w : ab_wd} {u : Nat} {o : Option Nat} (hu : u < w.2.2.1) (e : w.2.2.2 u = o) : ab_RV w (.inr (.inr u)) (.inr (.inr o)) := ⟨hu, by rw [e]⟩
theorem ab_get_s {c : ab_co} {y i ci fk : Nat} {st : List ab_V} {Y : ab_Y} {R : ab_R} {m : ab_m} {k : List ab_V → ab_Y → ab_R → ab_m → Bool} {w : ab_wd} {st' : List mj_V} {G : mj_G} {M : mj_M} {k' : List mj_V → Prop} (h : ab_get c y i ci fk st Y R m k = true) (hS : ab_RS w st st') (hY : ab_RY w Y) (hR : ab_RR w G R) (hM : ab_RM w M m) (hI : ab_Inv G M) (kk : ∀ w' t t' Y' R' m', ab_up w w' → ab_RY w' Y' → ab_RR w' G R' → ab_RM w' M m' → ab_RS w' t t' → k t Y' R' m' = true → k' t') : mj_get ci fk st' G M k' := by
  obtain ⟨r, t, t', rfl, hr, hS, h⟩ := ab_r1_s h hS
  obtain ⟨tg, n, e1, h, e2, -⟩ := ab_tg_s h hR
  obtain ⟨hc, h⟩ := sx_cd h
  obtain ⟨n1, n2, n3, n4, n5⟩ := ab_obj hc
  obtain ⟨a, a1, a2⟩ := ab_rt_a e2 n1 n2 n3
  rw [a1]
  refine ⟨tg, n, a2, n4, ?_⟩
  split at h
  · rename_i e
    rw [e]
    obtain ⟨-, a', b1, w1, v, Y1, m1, u1, u2, u3, u4, u5⟩ := ab_rdi_s h hY hR hM hI (z := Int.ofNat fk) rfl (Int.natCast_nonneg fk)
    have ea : a' = a := Option.some.inj (b1.symm.trans a1)
    subst ea
    obtain ⟨x', Y2, o1, o2, o3⟩ := ab_psh_s u5 u2 u4
    exact kk w1 _ _ Y2 R m1 u1.1 o1 (hR.ey u1) u3 ((hS.up u1.1).c o2.v) o3
  · rename_i e
    rw [e]
    exact kk w _ _ Y R m ab_up.rf hY hR hM (hS.c ab_RV.l) h
  · rename_i x1 x2
    obtain ⟨-, a', b1, w1, v, R1, m1, u1, u2, u3, u4, u5, u6⟩ := ab_rdr_s h hY hR hM hI (z := Int.ofNat fk) rfl (Int.natCast_nonneg fk)
    have ea : a' = a := Option.some.inj (b1.symm.trans a1)
    subst ea
    have u5 : M.2.2 a' fk = w1.2.2.2 v := u5
    have hg : mj_rf (M.2.2 a' fk) fun v => k' (v :: t') := ⟨fun b hb => kk w1 _ _ Y R1 m1 u1.1 (hY.er u1) u2 u3 ((hS.up u1.1).c (ab_RV.r u4 (by rw [← u5, hb]))) u6, fun hb => kk w1 _ _ Y R1 m1 u1.1 (hY.er u1) u2 u3 ((hS.up u1.1).c (ab_RV.r u4 (by rw [← u5, hb]))) u6⟩
    split
    · rename_i e; exact absurd e x1
    · rename_i e; exact absurd e x2
    · exact hg
theorem ab_gw_x {fk T n a u : Nat} {G : mj_G} {k' : List mj_V → Prop} {t' : List mj_V} (eq : (T - 900050) / 1000 = u) (hG : G a = (T, n)) (ht : T % 1000 = 50) (h0 : fk = 0 → k' (.inr (.inl (mj_wc.getD u 0)) :: t')) (h1 : ∀ m, fk = m + 1 → k' (.inl (mj_ww.getD u 0) :: t')) : mj_gw fk (.inr (.inr (some a)) :: t') G k' := by
  subst eq
  refine ⟨T, n, hG, ht, ?_⟩
  cases fk with
  | zero => exact h0 rfl
  | succ m => exact h1 m rfl
theorem ab_gw_s {fk : Nat} {st : List ab_V} {Y : ab_Y} {R : ab_R} {k : List ab_V → ab_R → Bool} {w : ab_wd} {st' : List mj_V} {G : mj_G} {M : mj_M} {k' : List mj_V → Prop} (h : ab_gw fk st Y R k = true) (hS : ab_RS w st st') (hR : ab_RR w G R) (hI : ab_Inv G M) (kk : ∀ t t' R', ab_RR w G R' → ab_RS w t t' → k t R' = true → k' t') : mj_gw fk st' G k' := by
  obtain ⟨r, t, t', rfl, hr, hS, h⟩ := ab_r1_s h hS
  obtain ⟨tg, n, e1, h, e2, -⟩ := ab_tg_s h hR
  obtain ⟨hc, h⟩ := sx_cd h
  have hc : tg % 1000 = 50 := sx_beq hc
  have hw : ∃ a, w.2.2.2 r = some a ∧ (G a).1 % 1000 = 50 ∧ (tg = 50 ∨ (G a).1 = tg) := by
    rcases e2 with g | g | g | g
    · rw [show tg = 0 from g.1] at hc; simp at hc
    · rw [show tg = 1 from g.1] at hc; simp at hc
    · obtain ⟨a, g1, g2⟩ := g.2; exact ⟨a, g1, g2, Or.inl g.1⟩
    · obtain ⟨a, g1, g2⟩ := g.2.2.2; exact ⟨a, g1, by rw [g2]; exact hc, Or.inr (by rw [g2])⟩
  obtain ⟨a, a1, a2, a3⟩ := hw
  obtain ⟨q, hq, hG⟩ := hI.2.2.1 a a2
  obtain ⟨T, hT⟩ : ∃ T, T = 900050 + 1000 * q := ⟨_, rfl⟩
  have eq : (T - 900050) / 1000 = q := by omega
  have t1 : T % 1000 = 50 := by omega
  have t2 : T ≠ 0 := by omega
  have t3 : T ≠ 1 := by omega
  have t4 : T ≠ 50 := by omega
  rw [← hT] at hG
  rw [a1]
  refine ab_gw_x (eq := eq) hG t1 (fun e => ?_) (fun u e => ?_)
  · subst e
    exact kk _ _ R hR (hS.c ab_RV.l) h
  · subst e
    have vw : ab_RV w (.inl (.inl (mj_ww.getD q 0))) (.inl (mj_ww.getD q 0)) := ⟨_, rfl, rfl⟩
    cases h5 : Nat.beq tg 50 with
    | true =>
      rw [h5] at h
      have h : (List.range 24).all (fun q => sx_fi (mj_ww.getD q 0) fun z => sx_fn (900050 + 1000 * q) fun t9 => k (.inl (.inl z) :: t) (R.set r (t9, 0))) = true := h
      rw [List.all_eq_true] at h
      have h := h q (List.mem_range.mpr hq)
      rw [sx_fi_eq] at h
      generalize 900050 + 1000 * q = T2 at h hT
      subst hT
      rw [sx_fn_eq] at h
      refine kk _ _ _ (hR.set (q := (T, 0)) ?_) (hS.c vw) h
      rw [a1]
      exact Or.inr (Or.inr (Or.inr ⟨t2, t3, t4, a, rfl, hG⟩))
    | false =>
      rw [h5] at h
      have et : tg = T := by
        rcases a3 with g | g
        · rw [g] at h5; cases h5
        · rw [hG] at g; exact g.symm
      rw [et, eq] at h
      have h : (sx_fi (mj_ww.getD q 0) fun z => k (.inl (.inl z) :: t) R) = true := h
      rw [sx_fi_eq] at h
      exact kk _ _ R hR (hS.c vw) h
theorem ab_put_s {c : ab_co} {ci fk : Nat} {st : List ab_V} {Y : ab_Y} {R : ab_R} {m : ab_m} {k : List ab_V → ab_Y → ab_m → Bool} {w : ab_wd} {st' : List mj_V} {G : mj_G} {M0 M : mj_M} {k' : List mj_V → mj_M → Prop} (h : ab_put c ci fk st Y R m k = true) (hS : ab_RS w st st') (hY : ab_RY w Y) (hR : ab_RR w G R) (hM : ab_RM w M m) (hI : ab_Inv G M) (hF : ab_frm (ab_w c) G M0 M) (kk : ∀ w' t t' Y' m' M', ab_ey w w' → ab_RY w' Y' → ab_RM w' M' m' → ab_Inv G M' → ab_frm (ab_w c) G M0 M' → ab_RS w' t t' → k t Y' m' = true → k' t' M') : mj_put ci fk st' G M k' := by
  unfold ab_put at h
  unfold mj_put
  split at h
  · rename_i e
    rw [e]
    obtain ⟨x, t, z, t', rfl, hx, hS, h⟩ := ab_i1_s h hS
    obtain ⟨r, t, t', rfl, hr, hS, h⟩ := ab_r1_s h hS
    obtain ⟨tg, n, e1, h, e2, -⟩ := ab_tg_s h hR
    obtain ⟨hc, h⟩ := sx_cd h
    obtain ⟨hc, hb⟩ := sx_nd hc
    obtain ⟨n1, n2, n3, n4, n5⟩ := ab_obj hc
    obtain ⟨a, a1, a2⟩ := ab_rt_a e2 n1 n2 n3
    obtain ⟨t2, m2, a', -, b1, b2, b3, b4, b5, w1, Y1, m1, u1, u2, u3, u4⟩ := ab_wri_s h hY hR hM hI hF (z := Int.ofNat fk) rfl (Int.natCast_nonneg fk) hx
    have ea : a' = a := Option.some.inj (b1.symm.trans a1)
    subst ea
    rw [b1]
    refine ⟨tg, n, a2, n4, n5, fun q => ?_, kk w1 _ _ Y1 m1 _ u1 u2 u3 b4 b5 (hS.up u1.1) u4⟩
    rw [q] at hb
    exact ab_tf_s hb hY hx
  · rename_i e
    rw [e]
    obtain ⟨t, z, t', rfl, hS, h⟩ := ab_l1_s h hS
    obtain ⟨r, t, t', rfl, hr, hS, h⟩ := ab_r1_s h hS
    obtain ⟨tg, n, e1, h, e2, -⟩ := ab_tg_s h hR
    obtain ⟨hc, h⟩ := sx_cd h
    obtain ⟨n1, n2, n3, n4, n5⟩ := ab_obj hc
    obtain ⟨a, a1, a2⟩ := ab_rt_a e2 n1 n2 n3
    rw [a1]
    exact ⟨tg, n, a2, n4, n5, kk w _ _ Y m (mj_p1 M a fk z) ab_ey.rf hY hM (hI.p1 (by rw [a2]; intro e; have e : tg = 55103 := e; have q2 := sx_blt (sx_nd hc).2; omega)) hF hS h⟩
  · rename_i x1 x2
    obtain ⟨u, t, t', rfl, hu, hS, h⟩ := ab_r1_s h hS
    obtain ⟨r, t, t', rfl, hr, hS, h⟩ := ab_r1_s h hS
    obtain ⟨tg, n, e1, h, e2, -⟩ := ab_tg_s h hR
    obtain ⟨hc, h⟩ := sx_cd h
    obtain ⟨n1, n2, n3, n4, n5⟩ := ab_obj hc
    obtain ⟨a, a1, a2⟩ := ab_rt_a e2 n1 n2 n3
    obtain ⟨-, t2, m2, a', -, b1, b2, b3, b4, b5, w1, Y1, m1, u1, u2, u3, u4⟩ := ab_wrr_s h hY hR hM hI hF (z := Int.ofNat fk) rfl (Int.natCast_nonneg fk)
    have ea : a' = a := Option.some.inj (b1.symm.trans a1)
    subst ea
    rw [b1]
    split
    · rename_i e; exact absurd e x1
    · rename_i e; exact absurd e x2
    · exact ⟨tg, n, a2, n4, n5, kk w1 _ _ Y1 m1 _ u1 u2 u3 b4 b5 (hS.up u1.1) u4⟩
theorem ab_ix_s {Y : ab_Y} {st : List ab_V} {R : ab_R} {k : Nat → Nat → ab_I → List ab_V → Bool} {w : ab_wd} {st' : List mj_V} {G : mj_G} (h : ab_ix Y st R k = true) (hS : ab_RS w st st') (hY : ab_RY w Y) (hR : ab_RR w G R) : ∃ r t n x z s s', st' = .inl z :: .inr (.inr (w.2.2.2 r)) :: s' ∧ ab_nR R r = some (t, n) ∧ ab_rt G (t, n) (w.2.2.2 r) ∧ ab_RI w x z ∧ 0 ≤ z ∧ z < (n : Int) ∧ ab_RS w s s' ∧ k r t x s = true := by
  obtain ⟨x, t, z, t', rfl, hx, hS, h⟩ := ab_i1_s h hS
  obtain ⟨r, t, t', rfl, hr, hS, h⟩ := ab_r1_s h hS
  obtain ⟨tg, n, e1, h, e2, -⟩ := ab_tg_s h hR
  obtain ⟨lo, hi, h, l1, l2⟩ := ab_iv_s h hY hx
  obtain ⟨hc, h⟩ := sx_cd h
  obtain ⟨c1, c2⟩ := sx_nd hc
  have c1 : 0 ≤ lo := sx_le_iff.mp c1
  rw [Bool.not_eq_true', Bool.eq_false_iff] at c2
  have c2 : hi < (n : Int) := sx_le_no c2
  exact ⟨r, tg, n, x, z, t, t', rfl, e1, e2, hx, by omega, by omega, hS, h⟩
theorem ab_ar {G : mj_G} {t n j : Nat} {o : Option Nat} (h : ab_rt G (t, n) o) (ht : t % 1000 = 100 + j) : ∃ a, o = some a ∧ G a = (t, n) := ab_rt_a h (fun e => by rw [e] at ht; simp at ht; omega) (fun e => by rw [e] at ht; simp at ht; omega) (fun e => by rw [e] at ht; simp at ht; omega)
theorem ab_cpc_s {t sp t2 dp : Nat} : ∀ (n : Nat), ab_cpc t sp t2 dp n = true → ∀ q, q < n → (ab_rg t2 (dp + q)).1 ≤ (ab_rg t (sp + q)).1 ∧ (ab_rg t (sp + q)).2 ≤ (ab_rg t2 (dp + q)).2
  | 0, _, q, hq => by omega
  | n + 1, h, q, hq => by
    unfold ab_cpc at h
    obtain ⟨h1, h2⟩ := sx_nd h
    obtain ⟨h3, h4⟩ := sx_nd h1
    by_cases e : q = n
    · subst e; exact ⟨sx_le_iff.mp h3, sx_le_iff.mp h4⟩
    · exact ab_cpc_s n h2 q (by omega)
theorem ab_lib_s {c : ab_co} {f : Nat} {st : List ab_V} {Y : ab_Y} {R : ab_R} {m : ab_m} {k : List ab_V → ab_Y → ab_m → Bool} {w : ab_wd} {st' : List mj_V} {G : mj_G} {M0 M : mj_M} {k' : List mj_V → mj_M → Prop} (h : ab_lib c f st Y R m k = true) (hS : ab_RS w st st') (hY : ab_RY w Y) (hR : ab_RR w G R) (hM : ab_RM w M m) (hI : ab_Inv G M) (hF : ab_frm (ab_w c) G M0 M) (kk : ∀ w' t t' Y' m' M', ab_ey w w' → ab_RY w' Y' → ab_RM w' M' m' → ab_Inv G M' → ab_frm (ab_w c) G M0 M' → ab_RS w' t t' → k t Y' m' = true → k' t' M') : mj_lib f st' G M k' := by
  have fin : ∀ {t : List ab_V} {t' : List mj_V} {z : Int}, ab_RS w t t' → ab_ok3 w (fun v Y => k (.inl v :: t) Y m) z → k' (.inl z :: t') M := fun {t t' z} hS h => by
    obtain ⟨w1, v, Y1, u1, u2, u3, u4⟩ := h
    exact kk w1 _ _ Y1 m M u1 u2 (hM.up u1.1) hI hF ((hS.up u1.1).c u3.v) u4
  unfold ab_lib at h
  split at h
  · obtain ⟨y, t, zy, t', rfl, hy, hS, h⟩ := ab_i1_s h hS
    obtain ⟨x, t, zx, t', rfl, hx, hS, h⟩ := ab_i1_s h hS
    obtain ⟨h8, h⟩ := sx_cd h
    refine ⟨by rw [← ab_cat_s hS]; exact sx_ble h8, fun z h1 h2 => ?_⟩
    cases g1 : ab_ge Y x y (.ofNat 0) with
    | true =>
      rw [g1] at h
      have g1 : zy + 0 ≤ zx := ab_ge_s hY g1 hx hy
      rw [h2 (by omega)]
      exact fin hS (ab_here hY hx h)
    | false =>
      rw [g1] at h
      dsimp only [cond_false] at h
      cases g2 : ab_ge Y y x (.ofNat 0) with
      | true =>
        rw [g2] at h
        have g2 : zx + 0 ≤ zy := ab_ge_s hY g2 hy hx
        have e : z = zy := by
          by_cases q : zx < zy
          · exact h1 q
          · rw [h2 q]; omega
        rw [e]
        exact fin hS (ab_here hY hy h)
      | false =>
        rw [g2] at h
        dsimp only [cond_false] at h
        obtain ⟨a, b, h, l1, l2⟩ := ab_iv_s h hY hx
        obtain ⟨p, q, h, l3, l4⟩ := ab_iv_s h hY hy
        have m1 := ab_mx_s b q
        refine fin hS (ab_fr_s h hY ?_ ?_ (fun r hr => by cases hr))
        · by_cases q : zx < zy
          · rw [h1 q]; rcases ab_mx_or a p with g | g <;> rw [g] <;> omega
          · rw [h2 q]; rcases ab_mx_or a p with g | g <;> rw [g] <;> omega
        · by_cases q : zx < zy
          · rw [h1 q]; omega
          · rw [h2 q]; omega
  · obtain ⟨y, t, zy, t', rfl, hy, hS, h⟩ := ab_i1_s h hS
    obtain ⟨x, t, zx, t', rfl, hx, hS, h⟩ := ab_i1_s h hS
    obtain ⟨h8, h⟩ := sx_cd h
    refine ⟨by rw [← ab_cat_s hS]; exact sx_ble h8, fun z h1 h2 => ?_⟩
    cases g1 : ab_ge Y y x (.ofNat 0) with
    | true =>
      rw [g1] at h
      have g1 : zx + 0 ≤ zy := ab_ge_s hY g1 hy hx
      rw [h2 (by omega)]
      exact fin hS (ab_here hY hx h)
    | false =>
      rw [g1] at h
      dsimp only [cond_false] at h
      cases g2 : ab_ge Y x y (.ofNat 0) with
      | true =>
        rw [g2] at h
        have g2 : zy + 0 ≤ zx := ab_ge_s hY g2 hx hy
        have e : z = zy := by
          by_cases q : zy < zx
          · exact h1 q
          · rw [h2 q]; omega
        rw [e]
        exact fin hS (ab_here hY hy h)
      | false =>
        rw [g2] at h
        dsimp only [cond_false] at h
        obtain ⟨a, b, h, l1, l2⟩ := ab_iv_s h hY hx
        obtain ⟨p, q, h, l3, l4⟩ := ab_iv_s h hY hy
        have m1 := ab_mn_s a p
        refine fin hS (ab_fr_s h hY ?_ ?_ (fun r hr => by cases hr))
        · by_cases q : zy < zx
          · rw [h1 q]; omega
          · rw [h2 q]; omega
        · by_cases q' : zy < zx
          · rw [h1 q']; rcases ab_mn_or b q with g | g <;> rw [g] <;> omega
          · rw [h2 q']; rcases ab_mn_or b q with g | g <;> rw [g] <;> omega
  · obtain ⟨x, t, zx, t', rfl, hx, hS, h⟩ := ab_i1_s h hS
    obtain ⟨h8, h⟩ := sx_cd h
    refine ⟨by rw [← ab_cat_s hS]; exact sx_ble h8, fun z h0 h1 h2 => ?_⟩
    obtain ⟨a, b, h, l1, l2⟩ := ab_iv_s h hY hx
    cases g1 : sx_le (.ofNat 0) a with
    | true =>
      rw [g1] at h
      have g1 : 0 ≤ a := sx_le_iff.mp g1
      rw [h1 (by omega)]
      exact fin hS (ab_here hY hx h)
    | false =>
      rw [g1] at h
      dsimp only [cond_false] at h
      cases g2 : sx_le a ab_lo with
      | true => rw [g2] at h; exact fin hS (ab_ff_s h hY h0)
      | false =>
        rw [g2] at h
        dsimp only [cond_false] at h
        have g2 : -2147483648 < a := sx_le_no (x := a) (y := ab_lo) (by rw [g2]; exact Bool.false_ne_true)
        have h00 := h0.1
        have m1 := ab_mx_s (-a) b
        by_cases hn : 0 ≤ zx
        · have e := h1 hn
          refine fin hS (ab_fr_s h hY ?_ (by omega) (fun r hr => by cases hr))
          cases g3 : sx_le (.ofNat 0) b with
          | true => show (0 : Int) ≤ z; omega
          | false =>
            have : b < 0 := sx_le_no (x := .ofNat 0) (y := b) (by rw [g3]; exact Bool.false_ne_true)
            omega
        · by_cases hm : zx = -2147483648
          · omega
          · have e := h2 (by omega) hm
            refine fin hS (ab_fr_s h hY ?_ (by omega) (fun r hr => by cases hr))
            cases g3 : sx_le (.ofNat 0) b with
            | true => show (0 : Int) ≤ z; omega
            | false => show -b ≤ z; omega
  · obtain ⟨n, t, zn, t', rfl, hn, hS, h⟩ := ab_i1_s h hS
    obtain ⟨dp, t, zd, t', rfl, hd, hS, h⟩ := ab_i1_s h hS
    obtain ⟨b, t, t', rfl, hb, hS, h⟩ := ab_r1_s h hS
    obtain ⟨sp, t, zs, t', rfl, hs, hS, h⟩ := ab_i1_s h hS
    obtain ⟨a, t, t', rfl, ha, hS, h⟩ := ab_r1_s h hS
    have h := ab_kn_s (ab_kn_s (ab_kn_s h hY hn) hY hd) hY hs
    obtain ⟨ta, na, e1, h, e2, -⟩ := ab_tg_s h hR
    obtain ⟨tb, nb, f1, h, f2, -⟩ := ab_tg_s h hR
    obtain ⟨hc, h⟩ := sx_cd h
    obtain ⟨c1, hc⟩ := sx_nd hc
    obtain ⟨c2, hc⟩ := sx_nd hc
    obtain ⟨c3, hc⟩ := sx_nd hc
    obtain ⟨c4, hc⟩ := sx_nd hc
    obtain ⟨c5, hc⟩ := sx_nd hc
    obtain ⟨c6, hc⟩ := sx_nd hc
    obtain ⟨c7, hc⟩ := sx_nd hc
    obtain ⟨c8, hc⟩ := sx_nd hc
    obtain ⟨c9, hc⟩ := sx_nd hc
    obtain ⟨c10, c11⟩ := sx_nd hc
    have c1 : ta % 1000 = 100 + 0 := sx_beq c1
    have c2 : tb % 1000 = 100 + 0 := sx_beq c2
    have c4 : 0 ≤ zs := sx_le_iff.mp c4
    have c5 : 0 ≤ zd := sx_le_iff.mp c5
    have c6 : 1 ≤ zn := sx_le_iff.mp c6
    have c7 := sx_ble c7
    have c8 := sx_ble c8
    obtain ⟨aa, a1, a2⟩ := ab_ar e2 c1
    obtain ⟨bb, b1, b2⟩ := ab_ar f2 c2
    rw [a1, b1]
    have cov : ∀ q, zd.toNat ≤ q → q < zd.toNat + zn.toNat → ab_cov (ab_w c) tb q := fun q q1 q2 => by
      have := ab_cw_s (z := (q : Int)) c11 (by omega) (by omega)
      exact this
    have hM' : ∀ x q, ¬ (x = bb ∧ zd.toNat ≤ q ∧ q < zd.toNat + zn.toNat) → (mj_cp0 M aa bb zs.toNat zd.toNat zn.toNat).1 x q = M.1 x q := fun x q hq => if_neg hq
    have hI' : ab_Inv G (mj_cp0 M aa bb zs.toNat zd.toNat zn.toNat) := by
      refine ⟨fun x q => ?_, hI.2⟩
      by_cases e : x = bb ∧ zd.toNat ≤ q ∧ q < zd.toNat + zn.toNat
      · rw [show (mj_cp0 M aa bb zs.toNat zd.toNat zn.toNat).1 x q = M.1 aa (zs.toNat + (q - zd.toNat)) from if_pos e]
        have g := ab_cpc_s _ c10 (q - zd.toNat) (by omega)
        have g2 := hI.1 aa (zs.toNat + (q - zd.toNat))
        rw [a2] at g2
        rw [e.1, b2]
        rw [show zd.toNat + (q - zd.toNat) = q by omega] at g
        exact ⟨Int.le_trans g.1 g2.1, Int.le_trans g2.2 g.2⟩
      · rw [hM' x q e]; exact hI.1 x q
    have hW : ab_frm [(tb, zd.toNat, zd.toNat + zn.toNat - 1)] G M (mj_cp0 M aa bb zs.toNat zd.toNat zn.toNat) := fun x q hq => by
      refine ⟨hM' x q (fun e => hq ⟨_, List.mem_cons_self, ?_, ?_, ?_⟩), rfl⟩
      · rw [e.1, b2]
      · exact e.2.1
      · show q ≤ zd.toNat + zn.toNat - 1; omega
    refine ⟨ta, na, a2, c1, tb, nb, b2, c2, sx_blt c3, c4, c5, by omega, by omega, by omega, by rw [← ab_cat_s hS]; exact sx_ble c9, kk w _ _ Y _ _ ab_ey.rf hY (ab_kw_s hY hR hM hW) hI' (fun x q hq => ?_) hS h⟩
    have := hF x q hq
    refine ⟨(hM' x q (fun e => hq ?_)).trans this.1, this.2⟩
    rw [e.1, b2]
    exact cov q e.2.1 e.2.2
  · obtain ⟨n, t, zn, t', rfl, hn, hS, h⟩ := ab_i1_s h hS
    obtain ⟨dp, t, zd, t', rfl, hd, hS, h⟩ := ab_i1_s h hS
    obtain ⟨b, t, t', rfl, hb, hS, h⟩ := ab_r1_s h hS
    obtain ⟨sp, t, zs, t', rfl, hs, hS, h⟩ := ab_i1_s h hS
    obtain ⟨a, t, t', rfl, ha, hS, h⟩ := ab_r1_s h hS
    have h := ab_kn_s (ab_kn_s (ab_kn_s h hY hn) hY hd) hY hs
    obtain ⟨ta, na, e1, h, e2, -⟩ := ab_tg_s h hR
    obtain ⟨tb, nb, f1, h, f2, -⟩ := ab_tg_s h hR
    obtain ⟨hc, h⟩ := sx_cd h
    obtain ⟨c1, hc⟩ := sx_nd hc
    obtain ⟨c2, hc⟩ := sx_nd hc
    obtain ⟨c3, hc⟩ := sx_nd hc
    obtain ⟨c4, hc⟩ := sx_nd hc
    obtain ⟨c5, hc⟩ := sx_nd hc
    obtain ⟨c6, hc⟩ := sx_nd hc
    obtain ⟨c7, hc⟩ := sx_nd hc
    obtain ⟨c8, c9⟩ := sx_nd hc
    have c1 : ta % 1000 = 100 + 3 := sx_beq c1
    have c2 : tb % 1000 = 100 + 3 := sx_beq c2
    have c4 : 0 ≤ zs := sx_le_iff.mp c4
    have c5 : 0 ≤ zd := sx_le_iff.mp c5
    have c6 : 0 ≤ zn := sx_le_iff.mp c6
    have c7 := sx_ble c7
    have c8 := sx_ble c8
    obtain ⟨aa, a1, a2⟩ := ab_ar e2 c1
    obtain ⟨bb, b1, b2⟩ := ab_ar f2 c2
    rw [a1, b1]
    obtain ⟨c3, c33⟩ := sx_nd c3
    have hI' : ab_Inv G (mj_cp1 M aa bb zs.toNat zd.toNat zn.toNat) := ⟨hI.1, hI.2.1, hI.2.2.1, hI.2.2.2.1, fun x k hx hk => (if_neg (fun e => by
      rw [e.1, b2] at hx
      have hx : tb = 55103 := hx
      rw [hx] at c33
      exact absurd c33 (by decide))).trans (hI.2.2.2.2 x k hx hk)⟩
    exact ⟨ta, na, a2, c1, tb, nb, b2, c2, sx_blt c3, c4, c5, c6, by omega, by omega, by rw [← ab_cat_s hS]; exact sx_ble c9, kk w _ _ Y _ (mj_cp1 M aa bb zs.toNat zd.toNat zn.toNat) ab_ey.rf hY hM hI' hF hS h⟩
  · cases h
end
section
/-! ===== calls, what comes back, arrivals ===== -/
theorem ab_ctr_s {c : ab_co} {kk : Option ab_V → ab_Y → ab_R → ab_m → Bool} {d dd f : Nat} {Y : ab_Y} {R : ab_R} {m : ab_m} {av : List ab_V} {q : ab_co} {w : ab_wd} {G : mj_G} {M0 M : mj_M} {av' : List mj_V} {Q : mj_P} (h : ab_ctr c kk d Y R m f av q = true) (hq : ab_ok q) (hd : d ≤ dd) (hY : ab_RY w Y) (hR : ab_RR w G R) (hM : ab_RM w M m) (hI : ab_Inv G M) (hF : ab_frm (ab_w c) G M0 M) (hA : ab_RS w av av') (k2 : ∀ w' r r' Y' R' m' M', ab_up w w' → ab_RY w' Y' → ab_RR w' G R' → ab_RM w' M' m' → ab_Inv G M' → ab_frm (ab_w c) G M0 M' → ab_ov w' r r' → kk r Y' R' m' = true → Q r' G M') : mj_R mj_tab dd f av' G M Q := by
  unfold ab_ctr at h
  obtain ⟨h1, h⟩ := sx_nd h
  obtain ⟨h2, h⟩ := sx_nd h
  obtain ⟨h3, h⟩ := sx_nd h
  have h1 := sx_beq h1
  have h2 := sx_blt h2
  obtain ⟨sg, rf, w1, Y1, R1, m1, u1, u2, u3, u4, u5, u6, u7, u8, p1, p2, p3, p4, p5, p6, h⟩ := ab_mt_s h hY hR hM hI (ab_RS_RL hA) (fun i x hx => by
      have : ∀ (n i : Nat), sx_nt (List.replicate n (none : Option ab_I)) i = none := by
        intro n
        induction n with
        | zero => intro i; rfl
        | succ n ih => intro i; cases i with
          | zero => rfl
          | succ i => exact ih i
      rw [this] at hx; cases hx) (fun i x hx => by
      have : ∀ (n i : Nat), sx_nt (List.replicate n (none : Option Nat)) i = none := by
        intro n
        induction n with
        | zero => intro i; rfl
        | succ n ih => intro i; cases i with
          | zero => rfl
          | succ i => exact ih i
      rw [this] at hx; cases hx)
  obtain ⟨d', rfl⟩ : ∃ d', dd = d' + 1 := ⟨dd - 1, by omega⟩
  rw [← h1]
  refine hq d' (by omega) G M _ av' Q p1 p2 p3 p4 hI (fun r M' hI' hF' ⟨po, hpo, hr, hms⟩ => ?_)
  have h := List.all_eq_true.mp h po hpo
  have hp : ∀ i x z, sx_nt sg i = some x → ab_RI w1 x z → (ab_wp (ab_p q) sg rf w1).2.1 i = z := fun i x z g1 g2 => ab_wp_r g1 g2
  have hrf : ∀ j u, sx_nt rf j = some u → u < w1.2.2.1 ∧ (ab_wp (ab_p q) sg rf w1).2.2.2 j = w1.2.2.2 u := fun j u g1 => ⟨(u8 j u g1).1, ab_wp_s g1⟩
  obtain ⟨w2, Y2, m2, o1, o2, o3, h⟩ := ab_pi_s _ _ _ _ w1 h u2 (ab_kw_s u2 u3 u4 hF') u7 hp hrf hms
  have hp2 : ∀ i x z, sx_nt sg i = some x → ab_RI w2 x z → (ab_wp (ab_p q) sg rf w1).2.1 i = z := fun i x z g1 g2 => by
    obtain ⟨z0, g3⟩ := u7 i x g1
    rw [ab_RI.fn g2 (g3.up o1.1)]
    exact hp i x z0 g1 g3
  obtain ⟨w3, rv, Y3, R3, v1, v2, v3, v4, h⟩ := ab_ri_s h o2 (u3.ey o1) (u7.up o1.1) hp2 hr
  exact k2 w3 rv r Y3 R3 m2 M' (u1.tr (o1.1.tr v1)) v2 v3 (o3.up v1) hI' (fun x k hk => by
    have g := hF' x k (fun q => hk (ab_cov_all h3 q))
    have g2 := hF x k hk
    exact ⟨g.1.trans g2.1, g.2.trans g2.2⟩) v4 h
section ABC
variable {c : ab_co} {id : Nat} {G : mj_G} {M0 : mj_M} {w0 wA : ab_wd} {A : Option (List (ab_I × Nat))}
theorem ab_call_s {K : ab_K} (hK : ab_ks c G M0 w0 wA A K) (hok : ∀ j, j < id → ab_ok (ab_tb j)) {y d i : Nat} {rest : List mj_E} {L : ab_L} {st : List ab_V} {fs : List ab_F} {Y : ab_Y} {R : ab_R} {m : ab_m} {E : ab_E} {f : Nat} {av : List ab_V} {w : ab_wd} {L' : mj_L} {st' av' : List mj_V} {M : mj_M} {Q : mj_P} {Z : mj_S} {dd cb sb : Nat} (h : ab_call c id K y d i rest L st fs Y R m E f av = true) (hd : d ≤ dd) (hz : ab_cz c G M0 w0 wA A fs y dd Q Z) (hi : rest = (ab_full y).drop i) (hL : ab_RL w L L') (hS : ab_RS w st st') (hA : ab_RS w av av') (hF : ab_RF c G M0 w0 wA A w fs Q) (hY : ab_RY w Y) (hR : ab_RR w G R) (hM : ab_RM w M m) (hE : ab_RE w E) (hI : ab_Inv G M) (hFm : ab_frm (ab_w c) G M0 M) (hu : ab_up w0 w) (huA : ab_up wA w) :
    mj_cat st' ≤ 8 ∧ (sx_ms f).1 ≤ cb ∧ (sx_ms f).2 ≤ sb ∧ mj_R mj_tab dd f av' G M fun r G M => Z rest L' (mj_ret r st') G M (cb - (sx_ms f).1) (sb - (sx_ms f).2) := by
  unfold ab_call at h
  obtain ⟨hc, h⟩ := sx_cd h
  obtain ⟨c1, hc⟩ := sx_nd hc
  obtain ⟨c2, hc⟩ := sx_nd hc
  obtain ⟨c3, c4⟩ := sx_nd hc
  have c2 : (sx_ms f).1 = 0 := sx_beq c2
  have c3 : (sx_ms f).2 = 0 := sx_beq c3
  rw [c2, c3]
  refine ⟨by rw [← ab_cat_s hS]; exact sx_ble c1, Nat.zero_le _, Nat.zero_le _, ?_⟩
  show mj_R mj_tab dd f av' G M fun r G M => Z rest L' (mj_ret r st') G M cb sb
  split at h
  · cases d with
    | zero => cases h
    | succ d =>
      dsimp only at h
      obtain ⟨d', rfl⟩ : ∃ d', dd = d' + 1 := ⟨dd - 1, by omega⟩
      refine ⟨by rw [← ab_wd_s hA]; exact sx_ble c4, ?_⟩
      intro Z' hZ'
      exact hK _ _ _ _ _ _ _ _ _ _ _ h w _ _ M _ Z' d' _ _ (by omega) ⟨hZ', fun q => by cases q⟩ rfl (ab_en_s _ hA) rfl ⟨L', st', Q, Z, d' + 1, cb, sb, hd, hz, hi, hL, hS, hF, fun r M h => h⟩ hY hR hM hE hI hFm hu huA
  · obtain ⟨j, hj, h⟩ := List.any_eq_true.mp h
    obtain ⟨h1, h⟩ := sx_nd h
    refine ab_ctr_s h (hok j (sx_blt h1)) hd hY hR hM hI hFm hA (fun w' r r' Y' R' m' M' u1 u2 u3 u4 u5 u6 u7 h => ?_)
    cases r with
    | none =>
      obtain rfl : r' = none := u7
      exact hK _ _ _ _ _ _ _ _ _ _ _ h w' L' st' M' Q Z dd cb sb hd hz hi (hL.up u1) (hS.up u1) (hF.up u1) u2 u3 u4 (hE.up u1) u5 u6 (hu.tr u1) (huA.tr u1)
    | some v =>
      obtain ⟨v', rfl, hv⟩ := u7
      exact hK _ _ _ _ _ _ _ _ _ _ _ h w' L' (v' :: st') M' Q Z dd cb sb hd hz hi (hL.up u1) ((hS.up u1).c hv) (hF.up u1) u2 u3 u4 (hE.up u1) u5 u6 (hu.tr u1) (huA.tr u1)
theorem ab_ret_s {K : ab_K} (hK : ab_ks c G M0 w0 wA A K) (h1 : w0.1 = (ab_p c).1.length) (h2 : w0.2.2.1 = (ab_p c).2.1.length) {fs : List ab_F} {Y : ab_Y} {R : ab_R} {m : ab_m} {E : ab_E} {r : Option ab_V} {r' : Option mj_V} {w : ab_wd} {M : mj_M} {Q : mj_P} (h : ab_ret c K fs Y R m E r = true) (hr : ab_ov w r r') (hF : ab_RF c G M0 w0 wA A w fs Q) (hY : ab_RY w Y) (hR : ab_RR w G R) (hM : ab_RM w M m) (hE : ab_RE w E) (hI : ab_Inv G M) (hFm : ab_frm (ab_w c) G M0 M) (hu : ab_up w0 w) (huA : ab_up wA w) : Q r' G M := by
  match fs, h, hF with
  | [], h, hF =>
    obtain ⟨po, hpo, h⟩ := List.any_eq_true.mp h
    obtain ⟨k1, h⟩ := sx_nd h
    obtain ⟨g1, g2⟩ := sx_nd h
    unfold ab_pk at k1
    obtain ⟨k1, k2⟩ := sx_nd k1
    rw [← h1, ← h2] at k2
    exact hF r' M hI hFm ⟨po, hpo, ab_pr_s g1 (by rw [h1]; exact k1) hY hR hu hr, ab_pm_s hI _ _ _ w g2 k2 hY hR hM hu⟩
  | (y, d, i, rest, L, st) :: fs, h, hF =>
    obtain ⟨L', st', Q', Z, dd, cb, sb, z0, z1, z2, z3, z4, z5, z6⟩ := hF
    cases r with
    | none =>
      obtain rfl : r' = none := hr
      exact z6 none M (hK _ _ _ _ _ _ _ _ _ _ _ h w L' st' M Q' Z dd cb sb z0 z1 z2 z3 z4 z5 hY hR hM hE hI hFm hu huA)
    | some v =>
      obtain ⟨v', rfl, hv⟩ := hr
      exact z6 (some v') M (hK _ _ _ _ _ _ _ _ _ _ _ h w L' (v' :: st') M Q' Z dd cb sb z0 z1 z2 z3 (z4.c hv) z5 hY hR hM hE hI hFm hu huA)
theorem ab_rk_s : ∀ {P R : ab_R} {n j : Nat} {q : Nat × Nat}, ab_rk P R n = true → j < n → ab_nR P j = some q → ∃ q', ab_nR R j = some q' ∧ ab_ts q q' = true
  | _, _, 0, _, _, _, h, _ => by omega
  | [], _, _ + 1, _, _, h, _, _ => by cases h
  | _ :: _, [], _ + 1, _, _, h, _, _ => by cases h
  | p :: ps, r :: rs, n + 1, 0, q, h, _, hq => by
    cases hq
    exact ⟨r, rfl, (sx_nd h).1⟩
  | p :: ps, r :: rs, n + 1, j + 1, q, h, hj, hq => ab_rk_s (P := ps) (R := rs) (n := n) (j := j) (sx_nd h).2 (by omega) hq
theorem ab_idr_s : ∀ (k n i : Nat) (t : ab_sg) (x : ab_I), (i < k → sx_nt (ab_idr n k ++ t) i = some (.inr (n + i, 1, .ofNat 0))) ∧ (k ≤ i → sx_nt (ab_idr n k ++ t) i = sx_nt t (i - k))
  | 0, n, i, t, x => ⟨fun h => by omega, fun _ => rfl⟩
  | k + 1, n, 0, t, x => ⟨fun _ => rfl, fun h => by omega⟩
  | k + 1, n, i + 1, t, x => by
    obtain ⟨h1, h2⟩ := ab_idr_s k (n + 1) i t x
    refine ⟨fun h => ?_, fun h => ?_⟩
    · rw [show n + (i + 1) = n + 1 + i by omega]
      exact h1 (by omega)
    · rw [show i + 1 - (k + 1) = i - k by omega]
      exact h2 (by omega)
theorem ab_idq_s : ∀ (k n i : Nat) (t : ab_rr), (i < k → sx_nt (ab_idq n k ++ t) i = some (n + i)) ∧ (k ≤ i → sx_nt (ab_idq n k ++ t) i = sx_nt t (i - k))
  | 0, n, i, t => ⟨fun h => by omega, fun _ => rfl⟩
  | k + 1, n, 0, t => ⟨fun _ => rfl, fun h => by omega⟩
  | k + 1, n, i + 1, t => by
    obtain ⟨h1, h2⟩ := ab_idq_s k (n + 1) i t
    refine ⟨fun h => ?_, fun h => ?_⟩
    · rw [show n + (i + 1) = n + 1 + i by omega]
      exact h1 (by omega)
    · rw [show i + 1 - (k + 1) = i - k by omega]
      exact h2 (by omega)
theorem ab_rep_n {β : Type} : ∀ (n i : Nat), sx_nt (List.replicate n (none : Option β)) i = none
  | 0, _ => rfl
  | _ + 1, 0 => rfl
  | n + 1, i + 1 => ab_rep_n n i
theorem ab_arr_s {i : Nat} {L : ab_L} {st : List ab_V} {Y : ab_Y} {R : ab_R} {m : ab_m} {w : ab_wd} {L' : mj_L} {st' : List mj_V} {M : mj_M} {Z : mj_S} {cb sb : Nat} (h : ab_arr c A i L st Y R m = true) (h1 : w0.1 = (ab_p c).1.length) (h2 : w0.2.2.1 = (ab_p c).2.1.length) (hA : ∀ A', A = some A' → ∀ q ∈ A', ∃ z, ab_RI wA q.1 z) (hz : ab_ih c G M0 w0 wA A Z) (hL : ab_RL w L L') (hS : ab_RS w st st') (hY : ab_RY w Y) (hR : ab_RR w G R) (hM : ab_RM w M m) (hI : ab_Inv G M) (hFm : ab_frm (ab_w c) G M0 M) (hu : ab_up w0 w) (huA : ab_up wA w) : Z ((ab_full (ab_y c)).drop i) L' st' G M cb sb := by
  unfold ab_arr at h
  obtain ⟨hs, h⟩ := sx_nd h
  obtain rfl : st = [] := by
    cases st with
    | nil => rfl
    | cons _ _ => cases hs
  obtain rfl : st' = [] := hS
  obtain ⟨b, hb, h⟩ := List.any_eq_true.mp h
  obtain ⟨e1, h⟩ := sx_nd h
  obtain ⟨e2, h⟩ := sx_nd h
  rw [← sx_beq e1]
  rw [← h1, ← h2] at h
  rw [← h2] at e2
  obtain ⟨sg, rf, w1, Y1, R1, m1, u1, u2, u3, u4, u5, u6, u7, u8, p1, p2, p3, p4, p5, p6, h⟩ := ab_mt_s h hY hR hM hI hL (fun j x hx => by
      rcases Nat.lt_or_ge j w0.1 with g | g
      · rw [(ab_idr_s w0.1 0 j _ x).1 g] at hx
        cases hx
        exact ⟨_, Nat.lt_of_lt_of_le (by omega) hu.1, rfl⟩
      · rw [(ab_idr_s w0.1 0 j _ x).2 g, ab_rep_n] at hx; cases hx) (fun j x hx => by
      rcases Nat.lt_or_ge j w0.2.2.1 with g | g
      · rw [(ab_idq_s w0.2.2.1 0 j _).1 g] at hx
        cases hx
        refine ⟨Nat.lt_of_lt_of_le (by omega) hu.2.2.1, fun q hq => ?_⟩
        obtain ⟨q', g1, g2⟩ := ab_rk_s e2 g hq
        rw [Nat.zero_add]
        exact ab_ts_s g2 (hR.2 j q' g1)
      · rw [(ab_idq_s w0.2.2.1 0 j _).2 g, ab_rep_n] at hx; cases hx)
  have huw : ab_up w0 (ab_wp b.2.1 sg rf w1) := by
    have f1 : ∀ j, j < w0.1 → sx_nt sg j = some (.inr (j, 1, .ofNat 0)) := fun j hj => by
      have := u5 j _ ((ab_idr_s w0.1 0 j _ (.inl 0)).1 hj)
      rw [Nat.zero_add] at this; exact this
    have f2 : ∀ j, j < w0.2.2.1 → sx_nt rf j = some j := fun j hj => by
      have := u6 j _ ((ab_idq_s w0.2.2.1 0 j _).1 hj)
      rw [Nat.zero_add] at this; exact this
    refine ⟨?_, fun j hj => ?_, ?_, fun j hj => ?_⟩
    · rcases Nat.eq_zero_or_pos w0.1 with g | g
      · rw [g]; exact Nat.zero_le _
      · have := ab_nt_lt (f1 (w0.1 - 1) (by omega))
        show w0.1 ≤ b.2.1.1.length
        omega
    · refine (ab_wp_r (z := w0.2.1 j) (f1 j hj) ⟨Nat.lt_of_lt_of_le hj (Nat.le_trans hu.1 u1.1), ?_⟩)
      rw [u1.2.1 j (Nat.lt_of_lt_of_le hj hu.1), hu.2.1 j hj]
      have : Int.ofNat 1 * w0.2.1 j = w0.2.1 j := Int.one_mul _
      show Int.ofNat 1 * w0.2.1 j + 0 = w0.2.1 j
      omega
    · rcases Nat.eq_zero_or_pos w0.2.2.1 with g | g
      · rw [g]; exact Nat.zero_le _
      · have := ab_nt_lt (f2 (w0.2.2.1 - 1) (by omega))
        show w0.2.2.1 ≤ b.2.1.2.1.length
        omega
    · rw [ab_wp_s (f2 j hj), u1.2.2.2 j (Nat.lt_of_lt_of_le hj hu.2.2.1), hu.2.2.2 j hj]
  refine hz b hb _ L' M cb sb ⟨p1, p2, p3, p4, hI, hFm, huw⟩ (fun A' e => ?_)
  subst e
  exact ab_ld_s u2 u7 (huA.tr u1) _ _ h (hA A' rfl)
end ABC
end
