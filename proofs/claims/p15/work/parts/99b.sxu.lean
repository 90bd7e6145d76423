/-! ===== rows of arrays, copies, arithmetic, calls of the symbolic run ===== -/
theorem sx_rws_s {t m : Nat} : ∀ (n : Nat) {h : sx_H} {k : sx_H → Bool}, sx_rws t m n h k = true → h.1 ≤ 4096 → ∃ h', h'.1 = h.1 + n ∧ h'.1 ≤ 4096 ∧ (∀ j, j < 4096 → sx_g h'.2 j = if h.1 ≤ j ∧ j < h.1 + n then sx_nc t m else sx_g h.2 j) ∧ k h' = true
  | 0, h, k, hk, h4 => ⟨h, rfl, h4, fun j _ => by rw [if_neg (by omega)], hk⟩
  | n + 1, h, k, hk, h4 => by
    obtain ⟨hj, hk⟩ := sx_cd hk
    have hj := sx_blt hj
    rw [sx_sk_eq] at hk
    obtain ⟨h', a1, a2, a3, a4⟩ := sx_rws_s n (h := (Nat.succ h.1, sx_s 12 h.2 h.1 (sx_nc t m))) hk hj
    have a1 : h'.1 = h.1 + 1 + n := a1
    refine ⟨h', by omega, a2, fun j hj' => ?_, a4⟩
    rw [a3 j hj']
    show (if h.1 + 1 ≤ j ∧ j < h.1 + 1 + n then sx_nc t m else sx_g (sx_s 12 h.2 h.1 (sx_nc t m)) j) = _
    rw [sx_g12 _ _ hj hj']
    by_cases e : j = h.1
    · rw [if_neg (by omega), if_pos e, if_pos (by omega)]
    · rw [if_neg e]
      by_cases e2 : h.1 + 1 ≤ j ∧ j < h.1 + 1 + n
      · rw [if_pos e2, if_pos (by omega)]
      · rw [if_neg e2, if_neg (by omega)]
theorem sx_rfs_s {b : Nat} : ∀ (n : Nat) {u : Lean.RArray (Option Nat)} {k : Lean.RArray (Option Nat) → Bool}, sx_rfs b n u k = true → n ≤ 4096 → ∃ u', (∀ j, j < 4096 → sx_g u' j = if j < n then some (b + j) else sx_g u j) ∧ k u' = true
  | 0, u, k, hk, _ => ⟨u, fun j _ => by rw [if_neg (by omega)], hk⟩
  | n + 1, u, k, hk, h4 => by
    unfold sx_rfs at hk
    rw [sx_sk_eq] at hk
    obtain ⟨u', a1, a2⟩ := sx_rfs_s n hk (by omega)
    refine ⟨u', fun j hj => ?_, a2⟩
    rw [a1 j hj, sx_g12 _ _ (by omega) hj]
    by_cases e : j < n
    · rw [if_pos e, if_pos (by omega)]
    · rw [if_neg e]
      by_cases e2 : j = n
      · rw [if_pos e2, if_pos (by omega), e2]
      · rw [if_neg e2, if_neg (by omega)]
theorem sx_cpa_s {β : Type} {a : Lean.RArray β} {sp dp : Nat} : ∀ (n : Nat) {b : Lean.RArray β} {k : Lean.RArray β → Bool}, sx_cpa n a sp b dp k = true → dp + n ≤ 4096 → ∃ b', (∀ j, j < 4096 → sx_g b' j = if dp ≤ j ∧ j < dp + n then sx_g a (sp + (j - dp)) else sx_g b j) ∧ k b' = true
  | 0, b, k, hk, _ => ⟨b, fun j _ => by rw [if_neg (by omega)], hk⟩
  | n + 1, b, k, hk, h4 => by
    unfold sx_cpa at hk
    rw [sx_sk_eq] at hk
    obtain ⟨b', a1, a2⟩ := sx_cpa_s n hk (by omega)
    refine ⟨b', fun j hj => ?_, a2⟩
    rw [a1 j hj, sx_g12 _ _ (by omega) hj]
    by_cases e : dp ≤ j ∧ j < dp + n
    · rw [if_pos e, if_pos (by omega)]
    · rw [if_neg e]
      by_cases e2 : j = dp + n
      · rw [if_pos e2, if_pos (by omega), e2, Nat.add_sub_cancel_left]
      · rw [if_neg e2, if_neg (by omega)]
/-- new int[n][m] -/
theorem sx_mul_s {w : sx_w} {h : sx_H} {G : mj_G} {M : mj_M} {n m : Nat} {k : Nat → sx_H → Bool} (hk : (sx_nw h 1104 n fun i h => sx_rws 1100 m n h fun h => sx_cl h i fun t l a b c => sx_rfs (i + 1) n c fun c => sx_pt h i (t, l, a, b, c) fun h => k i h) = true) (hH : sx_RH w h G M) {a : Nat} (ha : ∀ x, a ≤ x → G x = (0, 0)) :
    ∃ h', sx_RH (sx_wn w a (1 + n)) h' (mj_gg G a 1104 n 1100 m) (mj_zz M a n) ∧ k w.2.2.1 h' = true := by
  obtain ⟨hj, hk⟩ := sx_cd hk
  have hj := sx_blt hj
  rw [sx_sk_eq] at hk
  obtain ⟨h2, b1, b2, b3, hk⟩ := sx_rws_s n hk hj
  have b1 : h2.1 = h.1 + 1 + n := b1
  have b3 : ∀ j, j < 4096 → sx_g h2.2 j = if h.1 + 1 ≤ j ∧ j < h.1 + 1 + n then sx_nc 1100 m else sx_g (sx_s 12 h.2 h.1 (sx_nc 1104 n)) j := b3
  have b4 : sx_g h2.2 h.1 = sx_nc 1104 n := by rw [b3 _ hj, if_neg (by omega), sx_g12 _ _ hj hj, if_pos rfl]
  rw [sx_cl_eq, b4] at hk
  obtain ⟨u, u1, hk⟩ := sx_rfs_s n hk (by omega)
  rw [sx_pt_eq] at hk
  have hu : ∀ j, j < 4096 → sx_g u j = if j < n then some (h.1 + 1 + j) else none := fun j hj => u1 j hj
  have e1 := hH.1
  have wv : ∀ j, j < 1 + n → (sx_wn w a (1 + n)).2.2.2 (h.1 + j) = a + j := fun j hj' => by
    show (if h.1 + j < w.2.2.1 then w.2.2.2 (h.1 + j) else a + (h.1 + j - w.2.2.1)) = a + j
    rw [if_neg (by omega)]; omega
  refine ⟨_, hH.new (n := 1 + n) ha (h' := (h2.1, sx_s 12 h2.2 h.1 ((sx_nc 1104 n).1, (sx_nc 1104 n).2.1, (sx_nc 1104 n).2.2.1, (sx_nc 1104 n).2.2.2.1, u))) (by show h2.1 = _; omega) b2 (fun j hj' => ?_) (fun x hx => ?_) (fun x hx => ?_) (fun j hj' => ?_), by rw [← hH.1]; exact hk⟩
  · show sx_g (sx_s 12 h2.2 h.1 _) j = _
    rw [sx_g12 _ _ hj (by omega), if_neg (by omega), b3 _ (by omega), if_neg (by omega), sx_g12 _ _ hj (by omega), if_neg (by omega)]
  · unfold mj_gg; rw [if_neg (by omega), if_neg (by omega)]
  · unfold mj_zz
    have n1 : ¬ (a ≤ x ∧ x ≤ a + n) := fun q => hx q.1
    have n2 : ¬ x = a := fun q => hx (by omega)
    exact ⟨fun _ => if_neg n1, fun _ => if_neg n1, fun _ => by dsimp only; rw [if_neg n2, if_neg n1]⟩
  · show sx_RC _ _ _ (h.1 + j) (sx_g (sx_s 12 h2.2 h.1 _) (h.1 + j))
    unfold sx_RC
    rw [wv j hj', sx_g12 _ _ hj (by omega)]
    have n1 : a ≤ a + j ∧ a + j ≤ a + n := ⟨by omega, by omega⟩
    by_cases e : j = 0
    · subst e
      rw [if_pos (Nat.add_zero _), Nat.add_zero]
      refine ⟨by unfold mj_gg; rw [if_pos rfl]; rfl, by show (1104 : Nat) ≠ 0; decide, fun q hq => ⟨?_, ?_, ?_⟩⟩
      · show (0 : Int) = (mj_zz M a n).1 a q
        unfold mj_zz; dsimp only; rw [if_pos (by omega)]
      · show (mj_zz M a n).2.1 a q = 0
        unfold mj_zz; dsimp only; rw [if_pos (by omega)]
      · show sx_RO _ (sx_g u q) ((mj_zz M a n).2.2 a q)
        rw [hu q hq]
        unfold mj_zz
        dsimp only
        rw [if_pos rfl]
        by_cases e2 : q < n
        · rw [if_pos e2, if_pos e2]
          refine ⟨by show h.1 + 1 + q < w.2.2.1 + (1 + n); omega, ?_⟩
          rw [show h.1 + 1 + q = h.1 + (1 + q) by omega, wv (1 + q) (by omega), show a + (1 + q) = a + 1 + q by omega]
        · rw [if_neg e2, if_neg e2]; rfl
    · rw [if_neg (by omega), b3 _ (by omega), if_pos (by omega)]
      refine ⟨by unfold mj_gg; rw [if_neg (by omega), if_pos (by omega)]; rfl, by show (1100 : Nat) ≠ 0; decide, fun q hq => ⟨?_, ?_, ?_⟩⟩
      · show (0 : Int) = (mj_zz M a n).1 (a + j) q
        unfold mj_zz; dsimp only; rw [if_pos n1]
      · show (mj_zz M a n).2.1 (a + j) q = 0
        unfold mj_zz; dsimp only; rw [if_pos n1]
      · show (mj_zz M a n).2.2 (a + j) q = none
        unfold mj_zz; dsimp only; rw [if_neg (by omega), if_pos n1]
theorem sx_ix_s {w : sx_w} {Y : sx_Y} {st : List sx_V} {st' : List mj_V} {h : sx_H} {k : Nat → Nat → Nat → sx_c → sx_Y → List sx_V → Bool} (hk : sx_ix Y st h k = true) (hS : sx_RS w st st') (hY : sx_RY w Y) :
    ∃ (i : Nat) (z : Int) (Y' : sx_Y) (t : List sx_V) (t' : List mj_V), st' = .inl z :: .inr (.inr (some (w.2.2.2 i))) :: t' ∧ i < w.2.2.1 ∧ sx_RY w Y' ∧ sx_RS w t t' ∧ 0 ≤ z ∧ z < ((sx_g h.2 i).2.1 : Int) ∧ z.toNat < 4096 ∧ k i (sx_g h.2 i).1 z.toNat (sx_g h.2 i) Y' t = true := by
  obtain ⟨x, t, z, t', rfl, hx, hS, hk⟩ := sx_i1_s hk hS
  obtain ⟨i, t, t', rfl, hi, hS, hk⟩ := sx_a1_s hk hS
  rw [sx_cl_eq] at hk
  obtain ⟨Y', hY', hk⟩ := sx_sp_s hk hY hx
  obtain ⟨h1, hk⟩ := sx_cd hk
  obtain ⟨h1, h2⟩ := sx_nd h1
  obtain ⟨h2, h3⟩ := sx_nd h2
  have h1 : 0 ≤ z := sx_le_iff.mp h1
  have h2 := sx_blt h2
  exact ⟨i, z, Y', t, t', rfl, hi, hY', hS, h1, by omega, sx_blt h3, hk⟩
/-! arithmetic -/
theorem sx_op2_s {w : sx_w} {Y : sx_Y} {st : List sx_V} {st' : List mj_V} {f : Int → Int → Int → Int → Option (Int × Int)} {k : sx_I → sx_Y → List sx_V → Bool} {F : Int → Int → Int} {g : Int32 → Int32 → Int32} {k' : List mj_V → Prop} (h : sx_op2 Y st f k = true) (hS : sx_RS w st st') (hY : sx_RY w Y) (hf : ∀ a b c d q x y, f a b c d = some q → a ≤ x → x ≤ b → c ≤ y → y ≤ d → q.1 ≤ F x y ∧ F x y ≤ q.2)
    (kk : ∀ w' x z Y' t t', sx_e w w' → sx_RY w' Y' → sx_RI w' x z → sx_RS w' t t' → k x Y' t = true → k' (.inl z :: t')) : mj_bin F st' g k' := by
  obtain ⟨y, t, zy, t', rfl, hy, hS, h⟩ := sx_i1_s h hS
  obtain ⟨x, t, zx, t', rfl, hx, hS, h⟩ := sx_i1_s h hS
  obtain ⟨a, b, h, h1, h2⟩ := sx_iv_s h hY hx
  obtain ⟨c, d, h, h3, h4⟩ := sx_iv_s h hY hy
  show (mj_in (F zx zy) ∧ k' (.inl (F zx zy) :: t')) ∨ ∀ z, mj_in z → z = (g (Int32.ofInt zx) (Int32.ofInt zy)).toInt → k' (.inl z :: t')
  have full : (sx_ff Y fun x Y => k x Y t) = true → ∀ z, mj_in z → z = (g (Int32.ofInt zx) (Int32.ofInt zy)).toInt → k' (.inl z :: t') := fun hf z hz _ => by
    obtain ⟨w', x', Y', u1, u2, u3, u4⟩ := sx_ff_s hf hY hz
    exact kk w' x' z Y' t t' u1 u2 u3 (hS.up u1.1) u4
  cases hq : f a b c d with
  | none => rw [hq] at h; exact Or.inr (full h)
  | some q =>
    rw [hq] at h
    obtain ⟨q1, q2⟩ := hf a b c d q zx zy hq h1 h2 h3 h4
    rcases sx_ai_s h hY q1 q2 with ⟨u0, w', x', Y', u1, u2, u3, u4⟩ | h
    · exact Or.inl ⟨u0, kk w' x' _ Y' t t' u1 u2 u3 (hS.up u1.1) u4⟩
    · exact Or.inr (full h)
theorem sx_fadd_s (a b c d : Int) (q : Int × Int) (x y : Int) (h : sx_fadd a b c d = some q) (h1 : a ≤ x) (h2 : x ≤ b) (h3 : c ≤ y) (h4 : y ≤ d) : q.1 ≤ x + y ∧ x + y ≤ q.2 := by
  obtain rfl := Option.some.inj h
  dsimp only; omega
theorem sx_fsub_s (a b c d : Int) (q : Int × Int) (x y : Int) (h : sx_fsub a b c d = some q) (h1 : a ≤ x) (h2 : x ≤ b) (h3 : c ≤ y) (h4 : y ≤ d) : q.1 ≤ x - y ∧ x - y ≤ q.2 := by
  obtain rfl := Option.some.inj h
  dsimp only; omega
theorem sx_fmul_s (a b c d : Int) (q : Int × Int) (x y : Int) (h : sx_fmul a b c d = some q) (h1 : a ≤ x) (h2 : x ≤ b) (h3 : c ≤ y) (h4 : y ≤ d) : q.1 ≤ x * y ∧ x * y ≤ q.2 := by
  unfold sx_fmul at h
  cases e1 : (sx_eq a b && sx_eq c d) with
  | true =>
    rw [e1] at h
    obtain rfl := Option.some.inj h
    obtain ⟨e2, e3⟩ := sx_nd e1
    have e2 := sx_eq_iff.mp e2
    have e3 := sx_eq_iff.mp e3
    rw [show x = a by omega, show y = c by omega]
    exact ⟨Int.le_refl _, Int.le_refl _⟩
  | false =>
    rw [e1] at h
    dsimp only [cond_false] at h
    cases e4 : (sx_eq c d && sx_le (.ofNat 0) c) with
    | true =>
      rw [e4] at h
      obtain rfl := Option.some.inj h
      obtain ⟨e2, e3⟩ := sx_nd e4
      have e2 := sx_eq_iff.mp e2
      have e3 : 0 ≤ c := sx_le_iff.mp e3
      rw [show y = c by omega]
      exact ⟨Int.mul_le_mul_of_nonneg_right h1 e3, Int.mul_le_mul_of_nonneg_right h2 e3⟩
    | false =>
      rw [e4] at h
      dsimp only [cond_false] at h
      cases e5 : (sx_eq a b && sx_le (.ofNat 0) a) with
      | true =>
        rw [e5] at h
        obtain rfl := Option.some.inj h
        obtain ⟨e2, e3⟩ := sx_nd e5
        have e2 := sx_eq_iff.mp e2
        have e3 : 0 ≤ a := sx_le_iff.mp e3
        rw [show x = a by omega]
        exact ⟨Int.mul_le_mul_of_nonneg_left h3 e3, Int.mul_le_mul_of_nonneg_left h4 e3⟩
      | false => rw [e5] at h; cases h
theorem sx_bit_s {w : sx_w} {Y : sx_Y} {st : List sx_V} {st' : List mj_V} {an : Bool} {k : sx_I → sx_Y → List sx_V → Bool} {g : Int32 → Int32 → Int32} {k' : List mj_V → Prop} (h : sx_bit Y st an g k = true) (hS : sx_RS w st st') (hY : sx_RY w Y) (han : an = true → ∀ (x : Int32) (c : Int), 0 ≤ c → c ≤ 2147483647 → 0 ≤ (g x (Int32.ofInt c)).toInt ∧ (g x (Int32.ofInt c)).toInt ≤ c)
    (kk : ∀ w' x z Y' t t', sx_e w w' → sx_RY w' Y' → sx_RI w' x z → sx_RS w' t t' → k x Y' t = true → k' (.inl z :: t')) : mj_op st' g k' := by
  obtain ⟨y, t, zy, t', rfl, hy, hS, h⟩ := sx_i1_s h hS
  obtain ⟨x, t, zx, t', rfl, hx, hS, h⟩ := sx_i1_s h hS
  obtain ⟨a, b, h, h1, h2⟩ := sx_iv_s h hY hx
  obtain ⟨c, d, h, h3, h4⟩ := sx_iv_s h hY hy
  intro z hz hze
  have full : (sx_ff Y fun x Y => k x Y t) = true → k' (.inl z :: t') := fun hf => by
    obtain ⟨w', x', Y', u1, u2, u3, u4⟩ := sx_ff_s hf hY hz
    exact kk w' x' z Y' t t' u1 u2 u3 (hS.up u1.1) u4
  cases e1 : sx_eq c d with
  | false => rw [e1] at h; exact full h
  | true =>
    rw [e1] at h
    have e1 := sx_eq_iff.mp e1
    have ec : zy = c := by omega
    dsimp only [cond_true] at h
    cases e2 : sx_eq a b with
    | true =>
      rw [e2] at h
      have e2 := sx_eq_iff.mp e2
      dsimp only [cond_true] at h
      rw [sx_fi_eq] at h
      refine kk w _ z Y t t' sx_e.rf hY ?_ hS h
      show (g (Int32.ofInt a) (Int32.ofInt c)).toInt = z
      rw [hze, show zx = a by omega, ec]
    | false =>
      rw [e2] at h
      dsimp only [cond_false] at h
      cases e3 : (an && (sx_le (.ofNat 0) c && sx_le c (.ofNat 2147483647))) with
      | false => rw [e3] at h; exact full h
      | true =>
        rw [e3] at h
        dsimp only [cond_true] at h
        obtain ⟨a1, a2⟩ := sx_nd e3
        obtain ⟨a2, a3⟩ := sx_nd a2
        obtain ⟨b1, b2⟩ := han a1 (Int32.ofInt zx) c (sx_le_iff.mp a2) (sx_le_iff.mp a3)
        rw [ec] at hze
        rw [← hze] at b1 b2
        obtain ⟨w', x', Y', u1, u2, u3, u4⟩ := sx_fr_s h hY b1 b2
        exact kk w' x' z Y' t t' u1 u2 u3 (hS.up u1.1) u4
theorem sx_and_in (x : Int32) (c : Int) (h0 : 0 ≤ c) (h1 : c ≤ 2147483647) : 0 ≤ (x &&& Int32.ofInt c).toInt ∧ (x &&& Int32.ofInt c).toInt ≤ c := by
  have hb : (Int32.ofInt c).toBitVec.toNat = c.toNat := by
    rw [Int32.toBitVec_ofInt, BitVec.toNat_ofInt]
    congr 1
    exact Int.emod_eq_of_lt h0 (by omega)
  have hle : x.toBitVec.toNat &&& c.toNat ≤ c.toNat := Nat.and_le_right
  have e : (x &&& Int32.ofInt c).toInt = ((x.toBitVec.toNat &&& c.toNat : Nat) : Int) := by
    show (x &&& Int32.ofInt c).toBitVec.toInt = _
    rw [Int32.toBitVec_and, BitVec.toInt_eq_toNat_cond, BitVec.toNat_and, hb, if_pos (by omega)]
  rw [e]
  omega
theorem sx_un_s {w : sx_w} {Y : sx_Y} {st : List sx_V} {st' : List mj_V} {k : sx_I → sx_Y → List sx_V → Bool} {g : Int32 → Int32} {k' : List mj_V → Prop} (h : sx_un Y st g k = true) (hS : sx_RS w st st') (hY : sx_RY w Y)
    (kk : ∀ w' x z Y' t t', sx_e w w' → sx_RY w' Y' → sx_RI w' x z → sx_RS w' t t' → k x Y' t = true → k' (.inl z :: t')) : mj_un st' g k' := by
  obtain ⟨x, t, zx, t', rfl, hx, hS, h⟩ := sx_i1_s h hS
  obtain ⟨a, b, h, h1, h2⟩ := sx_iv_s h hY hx
  intro z hz hze
  cases e2 : sx_eq a b with
  | true =>
    rw [e2] at h
    have e2 := sx_eq_iff.mp e2
    dsimp only [cond_true] at h
    rw [sx_fi_eq] at h
    refine kk w _ z Y t t' sx_e.rf hY ?_ hS h
    show (g (Int32.ofInt a)).toInt = z
    rw [hze, show zx = a by omega]
  | false =>
    rw [e2] at h
    obtain ⟨w', x', Y', u1, u2, u3, u4⟩ := sx_ff_s h hY hz
    exact kk w' x' z Y' t t' u1 u2 u3 (hS.up u1.1) u4
theorem sx_tf_s {w : sx_w} {Y : sx_Y} {x : sx_I} {z : Int} (h : sx_tf Y x = true) (hY : sx_RY w Y) (hx : sx_RI w x z) : z = 0 ∨ z = 1 := by
  obtain ⟨a, b, h, h1, h2⟩ := sx_iv_s h hY hx
  obtain ⟨h3, h4⟩ := sx_nd h
  have h3 : 0 ≤ a := sx_le_iff.mp h3
  have h4 : b ≤ 1 := sx_le_iff.mp h4
  omega
theorem sx_swt_s {w : sx_w} {Y : sx_Y} {a b z : Int} {k : Nat → sx_Y → Bool} {x : sx_I} {k' : Nat → Prop} (hY : sx_RY w Y) (hx : sx_RI w x z) (h1 : a ≤ z) (h2 : z ≤ b) (kk : ∀ t Y', sx_RY w Y' → k t Y' = true → k' t) : ∀ (ts : List Nat) (v : Int), sx_swt Y a b k x v ts = true → mj_sw z k' v ts
  | [], _, _ => trivial
  | t :: ts, v, h => by
    obtain ⟨ha, hb⟩ := sx_nd h
    refine ⟨fun e => ?_, sx_swt_s hY hx h1 h2 kk ts (v + 1) hb⟩
    subst e
    have hk := sx_ct ha (by rw [Bool.and_eq_true, sx_le_iff, sx_le_iff]; exact ⟨h1, h2⟩)
    cases x with
    | inl _ => exact kk t Y hY hk
    | inr i => exact kk t _ (hY.set ⟨by rw [hx.2]; exact Int.le_refl _, by rw [hx.2]; exact Int.le_refl _⟩) hk
