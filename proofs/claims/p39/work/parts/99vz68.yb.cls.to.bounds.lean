section
/-! ===== a MONTH of the class (laid by a program) ===== -/
def ye_U (u : Nat → Nat) : Prop := (∀ i, i < 6 → u i < 900000) ∧ u 0 % 1000 = 10 ∧ u 1 % 1000 = 100 ∧ u 2 % 1000 = 100 ∧ u 3 % 1000 = 100 ∧ u 5 % 1000 = 100 ∧ u 4 % 1000 = 104 ∧ (∀ i j, i < 6 → j < 6 → u i = u j → i = j) ∧ (∀ i, i < 6 → u i ≠ 1004 ∧ u i ≠ 26100 ∧ u i ≠ 28100 ∧ u i ≠ 29100 ∧ u i ≠ 16100 ∧ u i ≠ 17100 ∧ u i ≠ 18100)
def ye_f (j : Nat) : Nat := if j = 222 then 1 else if j = 223 then 7 else if j = 224 then 2 else j - 217
theorem ye_fi : ∀ i, i < 10 → ∀ j, j < 10 → ye_f (222 + i) = ye_f (222 + j) → i = j := by decide
theorem ye_f0 : ∀ i, i < 10 → ye_f (222 + i) ≠ 0 := by decide
theorem ye_fn {i j : Nat} (h1 : 222 ≤ i) (h2 : i < 232) (h3 : 222 ≤ j) (h4 : j < 232) (h : i ≠ j) : ye_f i ≠ ye_f j := fun e => h (by
  have q := ye_fi (i - 222) (by omega) (j - 222) (by omega) (by rw [show 222 + (i - 222) = i by omega, show 222 + (j - 222) = j by omega]; exact e)
  omega)
theorem ye_fz {i : Nat} (h1 : 222 ≤ i) (h2 : i < 232) : ye_f i ≠ 0 := by
  have q := ye_f0 (i - 222) (by omega)
  rw [show 222 + (i - 222) = i by omega] at q; exact q
def yc_L (G : mj_G) (M0 : mj_M) (u : Nat → Nat) (y la lb lc oa : Nat) (yr : Nat → Nat) (pl ta ba wa : Nat) (tr br : Nat → Nat) (dl fa sa ca : Nat) (H : Nat → Int) : Prop := (ye_U u) ∧ (G y = (u 0, 0)) ∧ (G la = (u 1, 12)) ∧ (G lb = (u 2, 12)) ∧ (G lc = (u 3, 12)) ∧ (G oa = (u 4, 8)) ∧ (∀ t, t < 8 → G (yr t) = (u 5, 11)) ∧ (∀ t s, t < 8 → s < 8 → yr t = yr s → t = s) ∧ (G pl = (1004, 0)) ∧ (G ta = (25104, 8)) ∧ (G ba = (27104, 8)) ∧ (G wa = (29100, 12)) ∧ (∀ t, t < 8 → G (tr t) = (26100, 9)) ∧ (∀ t, t < 8 → G (br t) = (28100, 12)) ∧ (G dl = (1002, 0)) ∧ (G fa = (16100, 12)) ∧ (G sa = (17100, 12)) ∧ (G ca = (18100, 12)) ∧ (M0.2.2 y 3 = some la) ∧ (M0.2.2 y 4 = some lb) ∧ (M0.2.2 y 5 = some lc) ∧ (M0.2.2 y 6 = some oa) ∧ (∀ t, t < 8 → M0.2.2 oa t = some (yr t)) ∧ (M0.2.2 pl 1 = some ta) ∧ (M0.2.2 pl 2 = some ba) ∧ (M0.2.2 pl 3 = some wa) ∧ (∀ t, t < 8 → M0.2.2 ta t = some (tr t)) ∧ (∀ t, t < 8 → M0.2.2 ba t = some (br t)) ∧ (M0.2.2 dl 0 = some fa) ∧ (M0.2.2 dl 1 = some sa) ∧ (M0.2.2 dl 2 = some ca) ∧ (M0.1 pl 4 = H 0) ∧ (M0.1 pl 6 = H 1) ∧ (M0.1 pl 7 = H 2) ∧ (M0.1 pl 8 = H 3) ∧ (∀ t v, t < 8 → v < 9 → M0.1 (tr t) v = H (4 + 9 * t + v)) ∧ (∀ v, v < 12 → M0.1 wa v = H (76 + v)) ∧ (∀ t v, t < 8 → v < 12 → M0.1 (br t) v = H (88 + 12 * t + v)) ∧ (∀ v, v < 12 → M0.1 fa v = H (184 + 3 * v) - 1) ∧ (∀ v, v < 12 → M0.1 sa v = H (185 + 3 * v) - 1) ∧ (∀ v, v < 12 → M0.1 ca v = H (186 + 3 * v))
/-- the cells of a YEAR of the class, exactly -/
def yc_S (y la lb lc : Nat) (yr : Nat → Nat) (M0 : mj_M) (g A B C : Nat → Int) (R : Nat → Nat → Int) (M : mj_M) : Prop := M.2 = M0.2 ∧ (∀ a, a ≠ y → a ≠ la → a ≠ lb → a ≠ lc → (∀ t, t < 8 → a ≠ yr t) → M.1 a = M0.1 a) ∧ M.1 y 0 = M0.1 y 0 ∧ (∀ j, 222 ≤ j → j < 232 → M.1 y (ye_f j) = g j) ∧ (∀ j, j < 12 → M.1 la j = A j) ∧ (∀ j, j < 12 → M.1 lb j = B j) ∧ (∀ j, j < 12 → M.1 lc j = C j) ∧ (∀ t w, t < 8 → w < 11 → M.1 (yr t) w = R t w)
section YC
variable {G : mj_G} {M M0 : mj_M} {u : Nat → Nat} {y la lb lc oa pl ta ba wa dl fa sa ca : Nat} {yr tr br : Nat → Nat} {H : Nat → Int} {g g2 A B C : Nat → Int} {R R2 : Nat → Nat → Int} {r : Nat → Int} {a b j k t w i n : Nat} {v : Int}
theorem yc_L.hu (h : yc_L G M0 u y la lb lc oa yr pl ta ba wa tr br dl fa sa ca H) : ye_U u := h.1
theorem yc_L.gy (h : yc_L G M0 u y la lb lc oa yr pl ta ba wa tr br dl fa sa ca H) : G y = (u 0, 0) := h.2.1
theorem yc_L.gla (h : yc_L G M0 u y la lb lc oa yr pl ta ba wa tr br dl fa sa ca H) : G la = (u 1, 12) := h.2.2.1
theorem yc_L.glb (h : yc_L G M0 u y la lb lc oa yr pl ta ba wa tr br dl fa sa ca H) : G lb = (u 2, 12) := h.2.2.2.1
theorem yc_L.glc (h : yc_L G M0 u y la lb lc oa yr pl ta ba wa tr br dl fa sa ca H) : G lc = (u 3, 12) := h.2.2.2.2.1
theorem yc_L.goa (h : yc_L G M0 u y la lb lc oa yr pl ta ba wa tr br dl fa sa ca H) : G oa = (u 4, 8) := h.2.2.2.2.2.1
theorem yc_L.gyr (h : yc_L G M0 u y la lb lc oa yr pl ta ba wa tr br dl fa sa ca H) : ∀ t, t < 8 → G (yr t) = (u 5, 11) := h.2.2.2.2.2.2.1
theorem yc_L.iyr (h : yc_L G M0 u y la lb lc oa yr pl ta ba wa tr br dl fa sa ca H) : ∀ t s, t < 8 → s < 8 → yr t = yr s → t = s := h.2.2.2.2.2.2.2.1
theorem yc_L.gpl (h : yc_L G M0 u y la lb lc oa yr pl ta ba wa tr br dl fa sa ca H) : G pl = (1004, 0) := h.2.2.2.2.2.2.2.2.1
theorem yc_L.gta (h : yc_L G M0 u y la lb lc oa yr pl ta ba wa tr br dl fa sa ca H) : G ta = (25104, 8) := h.2.2.2.2.2.2.2.2.2.1
theorem yc_L.gba (h : yc_L G M0 u y la lb lc oa yr pl ta ba wa tr br dl fa sa ca H) : G ba = (27104, 8) := h.2.2.2.2.2.2.2.2.2.2.1
theorem yc_L.gwa (h : yc_L G M0 u y la lb lc oa yr pl ta ba wa tr br dl fa sa ca H) : G wa = (29100, 12) := h.2.2.2.2.2.2.2.2.2.2.2.1
theorem yc_L.gtr (h : yc_L G M0 u y la lb lc oa yr pl ta ba wa tr br dl fa sa ca H) : ∀ t, t < 8 → G (tr t) = (26100, 9) := h.2.2.2.2.2.2.2.2.2.2.2.2.1
theorem yc_L.gbr (h : yc_L G M0 u y la lb lc oa yr pl ta ba wa tr br dl fa sa ca H) : ∀ t, t < 8 → G (br t) = (28100, 12) := h.2.2.2.2.2.2.2.2.2.2.2.2.2.1
theorem yc_L.gdl (h : yc_L G M0 u y la lb lc oa yr pl ta ba wa tr br dl fa sa ca H) : G dl = (1002, 0) := h.2.2.2.2.2.2.2.2.2.2.2.2.2.2.1
theorem yc_L.gfa (h : yc_L G M0 u y la lb lc oa yr pl ta ba wa tr br dl fa sa ca H) : G fa = (16100, 12) := h.2.2.2.2.2.2.2.2.2.2.2.2.2.2.2.1
theorem yc_L.gsa (h : yc_L G M0 u y la lb lc oa yr pl ta ba wa tr br dl fa sa ca H) : G sa = (17100, 12) := h.2.2.2.2.2.2.2.2.2.2.2.2.2.2.2.2.1
theorem yc_L.gca (h : yc_L G M0 u y la lb lc oa yr pl ta ba wa tr br dl fa sa ca H) : G ca = (18100, 12) := h.2.2.2.2.2.2.2.2.2.2.2.2.2.2.2.2.2.1
theorem yc_L.y3 (h : yc_L G M0 u y la lb lc oa yr pl ta ba wa tr br dl fa sa ca H) : M0.2.2 y 3 = some la := h.2.2.2.2.2.2.2.2.2.2.2.2.2.2.2.2.2.2.1
theorem yc_L.y4 (h : yc_L G M0 u y la lb lc oa yr pl ta ba wa tr br dl fa sa ca H) : M0.2.2 y 4 = some lb := h.2.2.2.2.2.2.2.2.2.2.2.2.2.2.2.2.2.2.2.1
theorem yc_L.y5 (h : yc_L G M0 u y la lb lc oa yr pl ta ba wa tr br dl fa sa ca H) : M0.2.2 y 5 = some lc := h.2.2.2.2.2.2.2.2.2.2.2.2.2.2.2.2.2.2.2.2.1
theorem yc_L.y6 (h : yc_L G M0 u y la lb lc oa yr pl ta ba wa tr br dl fa sa ca H) : M0.2.2 y 6 = some oa := h.2.2.2.2.2.2.2.2.2.2.2.2.2.2.2.2.2.2.2.2.2.1
theorem yc_L.ot (h : yc_L G M0 u y la lb lc oa yr pl ta ba wa tr br dl fa sa ca H) : ∀ t, t < 8 → M0.2.2 oa t = some (yr t) := h.2.2.2.2.2.2.2.2.2.2.2.2.2.2.2.2.2.2.2.2.2.2.1
theorem yc_L.p1 (h : yc_L G M0 u y la lb lc oa yr pl ta ba wa tr br dl fa sa ca H) : M0.2.2 pl 1 = some ta := h.2.2.2.2.2.2.2.2.2.2.2.2.2.2.2.2.2.2.2.2.2.2.2.1
theorem yc_L.p2 (h : yc_L G M0 u y la lb lc oa yr pl ta ba wa tr br dl fa sa ca H) : M0.2.2 pl 2 = some ba := h.2.2.2.2.2.2.2.2.2.2.2.2.2.2.2.2.2.2.2.2.2.2.2.2.1
theorem yc_L.p3 (h : yc_L G M0 u y la lb lc oa yr pl ta ba wa tr br dl fa sa ca H) : M0.2.2 pl 3 = some wa := h.2.2.2.2.2.2.2.2.2.2.2.2.2.2.2.2.2.2.2.2.2.2.2.2.2.1
theorem yc_L.tt (h : yc_L G M0 u y la lb lc oa yr pl ta ba wa tr br dl fa sa ca H) : ∀ t, t < 8 → M0.2.2 ta t = some (tr t) := h.2.2.2.2.2.2.2.2.2.2.2.2.2.2.2.2.2.2.2.2.2.2.2.2.2.2.1
theorem yc_L.bt (h : yc_L G M0 u y la lb lc oa yr pl ta ba wa tr br dl fa sa ca H) : ∀ t, t < 8 → M0.2.2 ba t = some (br t) := h.2.2.2.2.2.2.2.2.2.2.2.2.2.2.2.2.2.2.2.2.2.2.2.2.2.2.2.1
theorem yc_L.d0 (h : yc_L G M0 u y la lb lc oa yr pl ta ba wa tr br dl fa sa ca H) : M0.2.2 dl 0 = some fa := h.2.2.2.2.2.2.2.2.2.2.2.2.2.2.2.2.2.2.2.2.2.2.2.2.2.2.2.2.1
theorem yc_L.d1 (h : yc_L G M0 u y la lb lc oa yr pl ta ba wa tr br dl fa sa ca H) : M0.2.2 dl 1 = some sa := h.2.2.2.2.2.2.2.2.2.2.2.2.2.2.2.2.2.2.2.2.2.2.2.2.2.2.2.2.2.1
theorem yc_L.d2 (h : yc_L G M0 u y la lb lc oa yr pl ta ba wa tr br dl fa sa ca H) : M0.2.2 dl 2 = some ca := h.2.2.2.2.2.2.2.2.2.2.2.2.2.2.2.2.2.2.2.2.2.2.2.2.2.2.2.2.2.2.1
theorem yc_L.n4 (h : yc_L G M0 u y la lb lc oa yr pl ta ba wa tr br dl fa sa ca H) : M0.1 pl 4 = H 0 := h.2.2.2.2.2.2.2.2.2.2.2.2.2.2.2.2.2.2.2.2.2.2.2.2.2.2.2.2.2.2.2.1
theorem yc_L.n6 (h : yc_L G M0 u y la lb lc oa yr pl ta ba wa tr br dl fa sa ca H) : M0.1 pl 6 = H 1 := h.2.2.2.2.2.2.2.2.2.2.2.2.2.2.2.2.2.2.2.2.2.2.2.2.2.2.2.2.2.2.2.2.1
theorem yc_L.n7 (h : yc_L G M0 u y la lb lc oa yr pl ta ba wa tr br dl fa sa ca H) : M0.1 pl 7 = H 2 := h.2.2.2.2.2.2.2.2.2.2.2.2.2.2.2.2.2.2.2.2.2.2.2.2.2.2.2.2.2.2.2.2.2.1
theorem yc_L.n8 (h : yc_L G M0 u y la lb lc oa yr pl ta ba wa tr br dl fa sa ca H) : M0.1 pl 8 = H 3 := h.2.2.2.2.2.2.2.2.2.2.2.2.2.2.2.2.2.2.2.2.2.2.2.2.2.2.2.2.2.2.2.2.2.2.1
theorem yc_L.nt (h : yc_L G M0 u y la lb lc oa yr pl ta ba wa tr br dl fa sa ca H) : ∀ t v, t < 8 → v < 9 → M0.1 (tr t) v = H (4 + 9 * t + v) := h.2.2.2.2.2.2.2.2.2.2.2.2.2.2.2.2.2.2.2.2.2.2.2.2.2.2.2.2.2.2.2.2.2.2.2.1
theorem yc_L.nw (h : yc_L G M0 u y la lb lc oa yr pl ta ba wa tr br dl fa sa ca H) : ∀ v, v < 12 → M0.1 wa v = H (76 + v) := h.2.2.2.2.2.2.2.2.2.2.2.2.2.2.2.2.2.2.2.2.2.2.2.2.2.2.2.2.2.2.2.2.2.2.2.2.1
theorem yc_L.nb (h : yc_L G M0 u y la lb lc oa yr pl ta ba wa tr br dl fa sa ca H) : ∀ t v, t < 8 → v < 12 → M0.1 (br t) v = H (88 + 12 * t + v) := h.2.2.2.2.2.2.2.2.2.2.2.2.2.2.2.2.2.2.2.2.2.2.2.2.2.2.2.2.2.2.2.2.2.2.2.2.2.1
theorem yc_L.nf (h : yc_L G M0 u y la lb lc oa yr pl ta ba wa tr br dl fa sa ca H) : ∀ v, v < 12 → M0.1 fa v = H (184 + 3 * v) - 1 := h.2.2.2.2.2.2.2.2.2.2.2.2.2.2.2.2.2.2.2.2.2.2.2.2.2.2.2.2.2.2.2.2.2.2.2.2.2.2.1
theorem yc_L.ns (h : yc_L G M0 u y la lb lc oa yr pl ta ba wa tr br dl fa sa ca H) : ∀ v, v < 12 → M0.1 sa v = H (185 + 3 * v) - 1 := h.2.2.2.2.2.2.2.2.2.2.2.2.2.2.2.2.2.2.2.2.2.2.2.2.2.2.2.2.2.2.2.2.2.2.2.2.2.2.2.1
theorem yc_L.nc (h : yc_L G M0 u y la lb lc oa yr pl ta ba wa tr br dl fa sa ca H) : ∀ v, v < 12 → M0.1 ca v = H (186 + 3 * v) := h.2.2.2.2.2.2.2.2.2.2.2.2.2.2.2.2.2.2.2.2.2.2.2.2.2.2.2.2.2.2.2.2.2.2.2.2.2.2.2.2
theorem ye_U.nn (h : ye_U u) (hi : i < 6) (hj : k < 6) (e : i ≠ k) : u i ≠ u k := fun q => e (h.2.2.2.2.2.2.2.1 i k hi hj q)
theorem ye_U.o (h : ye_U u) (ht : t = 1004 ∨ t = 26100 ∨ t = 28100 ∨ t = 29100 ∨ t = 16100 ∨ t = 17100 ∨ t = 18100) (hi : i < 6) : u i ≠ t := by
  have q := h.2.2.2.2.2.2.2.2 i hi
  rcases ht with e | e | e | e | e | e | e <;> subst e
  · exact q.1
  · exact q.2.1
  · exact q.2.2.1
  · exact q.2.2.2.1
  · exact q.2.2.2.2.1
  · exact q.2.2.2.2.2.1
  · exact q.2.2.2.2.2.2
theorem yc_S.rf (h : yc_S y la lb lc yr M0 g A B C R M) (e : M0.2.2 a k = some b) : M.2.2 a k = some b := by rw [h.1]; exact e
theorem yc_S.oo (h : yc_S y la lb lc yr M0 g A B C R M) (hL : yc_L G M0 u y la lb lc oa yr pl ta ba wa tr br dl fa sa ca H) (e : G a = (t, n)) (ht : t = 1004 ∨ t = 26100 ∨ t = 28100 ∨ t = 29100 ∨ t = 16100 ∨ t = 17100 ∨ t = 18100) : M.1 a = M0.1 a :=
  h.2.1 a (hn_ne e hL.gy (fun q => hL.hu.o ht (by decide) q.symm)) (hn_ne e hL.gla (fun q => hL.hu.o ht (by decide) q.symm)) (hn_ne e hL.glb (fun q => hL.hu.o ht (by decide) q.symm)) (hn_ne e hL.glc (fun q => hL.hu.o ht (by decide) q.symm)) (fun s hs => hn_ne e (hL.gyr s hs) (fun q => hL.hu.o ht (by decide) q.symm))
theorem yc_S.f (h : yc_S y la lb lc yr M0 g A B C R M) (h1 : 222 ≤ j) (h2 : j < 232) (e : ye_f j = k) : M.1 y k = g j := by rw [← e]; exact h.2.2.2.1 j h1 h2
theorem yc_S.vA (h : yc_S y la lb lc yr M0 g A B C R M) (hj : j < 12) : M.1 la j = A j := h.2.2.2.2.1 j hj
theorem yc_S.vB (h : yc_S y la lb lc yr M0 g A B C R M) (hj : j < 12) : M.1 lb j = B j := h.2.2.2.2.2.1 j hj
theorem yc_S.vC (h : yc_S y la lb lc yr M0 g A B C R M) (hj : j < 12) : M.1 lc j = C j := h.2.2.2.2.2.2.1 j hj
theorem yc_S.vR (h : yc_S y la lb lc yr M0 g A B C R M) (ht : t < 8) (hw : w < 11) : M.1 (yr t) w = R t w := h.2.2.2.2.2.2.2 t w ht hw
theorem yc_S.rr (h : yc_S y la lb lc yr M0 g A B C (ye_ru R t r) M) (ht : t < 8) (hw : w < 11) : M.1 (yr t) w = r w := (h.vR ht hw).trans (by rw [ye_ru_s])
theorem yc_S.op (t : Nat) (h : yc_S y la lb lc yr M0 g A B C R M) : yc_S y la lb lc yr M0 g A B C (ye_ru R t (R t)) M := by rw [ye_ru_o]; exact h
theorem yc_S.cg (h : yc_S y la lb lc yr M0 g A B C R M) (hg : ∀ j, 222 ≤ j → j < 232 → g j = g2 j) (hR : ∀ t w, t < 8 → w < 11 → R t w = R2 t w) : yc_S y la lb lc yr M0 g2 A B C R2 M := ⟨h.1, h.2.1, h.2.2.1, fun j h1 h2 => (h.2.2.2.1 j h1 h2).trans (hg j h1 h2), h.2.2.2.2.1, h.2.2.2.2.2.1, h.2.2.2.2.2.2.1, fun t w ht hw => (h.vR ht hw).trans (hR t w ht hw)⟩
theorem yc_L.nya (hL : yc_L G M0 u y la lb lc oa yr pl ta ba wa tr br dl fa sa ca H) : y ≠ la := hn_ne hL.gy hL.gla (hL.hu.nn (by decide) (by decide) (by decide))
theorem yc_L.nyb (hL : yc_L G M0 u y la lb lc oa yr pl ta ba wa tr br dl fa sa ca H) : y ≠ lb := hn_ne hL.gy hL.glb (hL.hu.nn (by decide) (by decide) (by decide))
theorem yc_L.nyc (hL : yc_L G M0 u y la lb lc oa yr pl ta ba wa tr br dl fa sa ca H) : y ≠ lc := hn_ne hL.gy hL.glc (hL.hu.nn (by decide) (by decide) (by decide))
theorem yc_L.nab (hL : yc_L G M0 u y la lb lc oa yr pl ta ba wa tr br dl fa sa ca H) : la ≠ lb := hn_ne hL.gla hL.glb (hL.hu.nn (by decide) (by decide) (by decide))
theorem yc_L.nac (hL : yc_L G M0 u y la lb lc oa yr pl ta ba wa tr br dl fa sa ca H) : la ≠ lc := hn_ne hL.gla hL.glc (hL.hu.nn (by decide) (by decide) (by decide))
theorem yc_L.nbc (hL : yc_L G M0 u y la lb lc oa yr pl ta ba wa tr br dl fa sa ca H) : lb ≠ lc := hn_ne hL.glb hL.glc (hL.hu.nn (by decide) (by decide) (by decide))
theorem yc_L.nyr (hL : yc_L G M0 u y la lb lc oa yr pl ta ba wa tr br dl fa sa ca H) (ht : t < 8) : yr t ≠ y := hn_ne (hL.gyr t ht) hL.gy (hL.hu.nn (by decide) (by decide) (by decide))
theorem yc_L.nar (hL : yc_L G M0 u y la lb lc oa yr pl ta ba wa tr br dl fa sa ca H) (ht : t < 8) : yr t ≠ la := hn_ne (hL.gyr t ht) hL.gla (hL.hu.nn (by decide) (by decide) (by decide))
theorem yc_L.nbr (hL : yc_L G M0 u y la lb lc oa yr pl ta ba wa tr br dl fa sa ca H) (ht : t < 8) : yr t ≠ lb := hn_ne (hL.gyr t ht) hL.glb (hL.hu.nn (by decide) (by decide) (by decide))
theorem yc_L.ncr (hL : yc_L G M0 u y la lb lc oa yr pl ta ba wa tr br dl fa sa ca H) (ht : t < 8) : yr t ≠ lc := hn_ne (hL.gyr t ht) hL.glc (hL.hu.nn (by decide) (by decide) (by decide))
theorem yc_S.pf (h : yc_S y la lb lc yr M0 g A B C R M) (hL : yc_L G M0 u y la lb lc oa yr pl ta ba wa tr br dl fa sa ca H) (h1 : 222 ≤ j) (h2 : j < 232) (e : ye_f j = k) : yc_S y la lb lc yr M0 (rv_up g j v) A B C R (mj_p0 M y k v) := by
  refine ⟨h.1, fun a a1 a2 a3 a4 a5 => (wz_c a1).trans (h.2.1 a a1 a2 a3 a4 a5), (hn_n (Or.inr (by rw [← e]; exact (ye_fz h1 h2).symm))).trans h.2.2.1, fun i i1 i2 => ?_, fun i hi => (congrFun (wz_c hL.nya.symm) i).trans (h.vA hi), fun i hi => (congrFun (wz_c hL.nyb.symm) i).trans (h.vB hi), fun i hi => (congrFun (wz_c hL.nyc.symm) i).trans (h.vC hi), fun t w ht hw => (congrFun (wz_c (hL.nyr ht)) w).trans (h.vR ht hw)⟩
  by_cases q : i = j
  · rw [q, rv_up_s, e]; exact hn_s
  · rw [rv_up_n q]
    exact (hn_n (Or.inr (by rw [← e]; exact ye_fn i1 i2 h1 h2 q))).trans (h.2.2.2.1 i i1 i2)
theorem yc_S.pA (h : yc_S y la lb lc yr M0 g A B C R M) (hL : yc_L G M0 u y la lb lc oa yr pl ta ba wa tr br dl fa sa ca H) : yc_S y la lb lc yr M0 g (rv_up A j v) B C R (mj_p0 M la j v) :=
  ⟨h.1, fun a a1 a2 a3 a4 a5 => (wz_c a2).trans (h.2.1 a a1 a2 a3 a4 a5), (congrFun (wz_c hL.nya) 0).trans h.2.2.1, fun i i1 i2 => (congrFun (wz_c hL.nya) _).trans (h.2.2.2.1 i i1 i2), cp_up (fun i hi => h.vA hi), fun i hi => (congrFun (wz_c (hL.nab.symm)) i).trans (h.vB hi), fun i hi => (congrFun (wz_c (hL.nac.symm)) i).trans (h.vC hi), fun t w ht hw => (congrFun (wz_c (hL.nar ht)) w).trans (h.vR ht hw)⟩
theorem yc_S.pB (h : yc_S y la lb lc yr M0 g A B C R M) (hL : yc_L G M0 u y la lb lc oa yr pl ta ba wa tr br dl fa sa ca H) : yc_S y la lb lc yr M0 g A (rv_up B j v) C R (mj_p0 M lb j v) :=
  ⟨h.1, fun a a1 a2 a3 a4 a5 => (wz_c a3).trans (h.2.1 a a1 a2 a3 a4 a5), (congrFun (wz_c hL.nyb) 0).trans h.2.2.1, fun i i1 i2 => (congrFun (wz_c hL.nyb) _).trans (h.2.2.2.1 i i1 i2), fun i hi => (congrFun (wz_c (hL.nab)) i).trans (h.vA hi), cp_up (fun i hi => h.vB hi), fun i hi => (congrFun (wz_c (hL.nbc.symm)) i).trans (h.vC hi), fun t w ht hw => (congrFun (wz_c (hL.nbr ht)) w).trans (h.vR ht hw)⟩
theorem yc_S.pC (h : yc_S y la lb lc yr M0 g A B C R M) (hL : yc_L G M0 u y la lb lc oa yr pl ta ba wa tr br dl fa sa ca H) : yc_S y la lb lc yr M0 g A B (rv_up C j v) R (mj_p0 M lc j v) :=
  ⟨h.1, fun a a1 a2 a3 a4 a5 => (wz_c a4).trans (h.2.1 a a1 a2 a3 a4 a5), (congrFun (wz_c hL.nyc) 0).trans h.2.2.1, fun i i1 i2 => (congrFun (wz_c hL.nyc) _).trans (h.2.2.2.1 i i1 i2), fun i hi => (congrFun (wz_c (hL.nac)) i).trans (h.vA hi), fun i hi => (congrFun (wz_c (hL.nbc)) i).trans (h.vB hi), cp_up (fun i hi => h.vC hi), fun t w ht hw => (congrFun (wz_c (hL.ncr ht)) w).trans (h.vR ht hw)⟩
theorem yc_S.pr (h : yc_S y la lb lc yr M0 g A B C (ye_ru R t r) M) (hL : yc_L G M0 u y la lb lc oa yr pl ta ba wa tr br dl fa sa ca H) (ht : t < 8) : yc_S y la lb lc yr M0 g A B C (ye_ru R t (rv_up r w v)) (mj_p0 M (yr t) w v) := by
  refine ⟨h.1, fun a a1 a2 a3 a4 a5 => (wz_c (a5 t ht)).trans (h.2.1 a a1 a2 a3 a4 a5), (congrFun (wz_c (hL.nyr ht).symm) 0).trans h.2.2.1, fun i i1 i2 => (congrFun (wz_c (hL.nyr ht).symm) _).trans (h.2.2.2.1 i i1 i2), fun i hi => (congrFun (wz_c (hL.nar ht).symm) i).trans (h.vA hi), fun i hi => (congrFun (wz_c (hL.nbr ht).symm) i).trans (h.vB hi), fun i hi => (congrFun (wz_c (hL.ncr ht).symm) i).trans (h.vC hi), fun s i hs hi => ?_⟩
  by_cases q : s = t
  · subst q
    rw [ye_ru_s]
    by_cases q2 : i = w
    · subst q2; rw [rv_up_s]; exact hn_s
    · rw [rv_up_n q2]
      exact (hn_n (Or.inr q2)).trans (h.rr ht hi)
  · rw [ye_ru_n q]
    exact (congrFun (wz_c (fun e => q (hL.iyr s t hs ht e))) i).trans ((h.vR hs hi).trans (by rw [ye_ru_n q]))
end YC
theorem r_X10_canPay {G : mj_G} {M M0 : mj_M} {u : Nat → Nat} {y la lb lc oa pl ta ba wa dl fa sa ca : Nat} {yr tr br : Nat → Nat} {H : Nat → Int} {g A B C : Nat → Int} {R : Nat → Nat → Int} {Q : mj_P} {d : Nat} (hL : yc_L G M0 u y la lb lc oa yr pl ta ba wa tr br dl fa sa ca H) {i z : Int} (hC : yc_S y la lb lc yr M0 g A B C R M) (hi : 0 ≤ i ∧ i ≤ 7) (h1 : ye_cp R i.toNat z → Q (some (.inl 1)) G M) (h0 : ¬ ye_cp R i.toNat z → Q (some (.inl 0)) G M) : mj_R mj_tab (d + 1) 89 [.inr (.inr (some y)), .inl i, .inl z] G M Q := by
  refine ⟨Nat.le_of_ble_eq_true rfl, ?_⟩
  show wz d mt_X10_canPay.2.2.2.2.1 _ mt_X10_canPay.2.2.2.2.1 [some (.inr (.inr (some y))), some (.inl i), some (.inl z)] [] G M _ _
  refine w_aln rfl ?_
  refine w_gr hL.gy hL.hu.2.1 (by decide) rfl (hC.rf hL.y6) ?_
  refine w_iln rfl ?_
  refine w_aald hL.goa hL.hu.2.2.2.2.2.2.1 (by show (0 : Int) ≤ i; omega) (by show i < ((8 : Nat) : Int); omega) (hC.rf (hL.ot _ (by show i.toNat < 8; omega))) ?_
  refine w_ic ?_
  refine w_iald (v := (R i.toNat 3)) (hL.gyr _ (by show i.toNat < 8; omega)) hL.hu.2.2.2.2.2.1 (by show (0 : Int) ≤ 3; omega) (by show 3 < ((11 : Nat) : Int); omega) (hC.vR (w := 3) (by show i.toNat < 8; omega) (by decide)) ?_
  refine w_ifne (fun c1 => ?_) (fun c1 => ?_)
  · skip
    refine w_ic ?_
    exact w_iret (fun _ => Or.inl rfl) (h0 (fun q => by have q1 := q.1; have q2 := q.2; omega))
  · skip
    refine w_aln rfl ?_
    refine w_gr hL.gy hL.hu.2.1 (by decide) rfl (hC.rf hL.y6) ?_
    refine w_iln rfl ?_
    refine w_aald hL.goa hL.hu.2.2.2.2.2.2.1 (by show (0 : Int) ≤ i; omega) (by show i < ((8 : Nat) : Int); omega) (hC.rf (hL.ot _ (by show i.toNat < 8; omega))) ?_
    refine w_ic ?_
    refine w_iald (v := (R i.toNat 1)) (hL.gyr _ (by show i.toNat < 8; omega)) hL.hu.2.2.2.2.2.1 (by show (0 : Int) ≤ 1; omega) (by show 1 < ((11 : Nat) : Int); omega) (hC.vR (w := 1) (by show i.toNat < 8; omega) (by decide)) ?_
    refine w_iln rfl ?_
    refine w_cmlt (fun c2 => ?_) (fun c2 => ?_)
    · skip
      refine w_ic ?_
      exact w_iret (fun _ => Or.inl rfl) (h0 (fun q => by have q1 := q.1; have q2 := q.2; omega))
    · skip
      refine w_ic ?_
      refine w_goto ?_
      exact w_iret (fun _ => Or.inr rfl) (h1 ⟨by omega, by omega⟩)
theorem r_X10_pay {G : mj_G} {M M0 : mj_M} {u : Nat → Nat} {y la lb lc oa pl ta ba wa dl fa sa ca : Nat} {yr tr br : Nat → Nat} {H : Nat → Int} {g A B C : Nat → Int} {R : Nat → Nat → Int} {Q : mj_P} {d : Nat} (hL : yc_L G M0 u y la lb lc oa yr pl ta ba wa tr br dl fa sa ca H) {i z : Int} (hC : yc_S y la lb lc yr M0 g A B C R M) (hi : 0 ≤ i ∧ i ≤ 7) (hz : -1000 ≤ z ∧ z ≤ 1000) (b1 : -10000000 ≤ R i.toNat 1 ∧ R i.toNat 1 ≤ 10000000) (b5 : -10000000 ≤ R i.toNat 5 ∧ R i.toNat 5 ≤ 10000000) (bg : -10000000 ≤ g 224 ∧ g 224 ≤ 10000000) (h : ∀ M, yc_S y la lb lc yr M0 (rv_up g 224 (g 224 + z)) A B C (ye_p1 R i z) M → Q none G M) : mj_R mj_tab (d + 1) 105 [.inr (.inr (some y)), .inl i, .inl z] G M Q := by
  refine ⟨Nat.le_of_ble_eq_true rfl, ?_⟩
  show wz d mt_X10_pay.2.2.2.2.1 _ mt_X10_pay.2.2.2.2.1 [some (.inr (.inr (some y))), some (.inl i), some (.inl z)] [] G M _ _
  refine w_aln rfl ?_
  refine w_gr hL.gy hL.hu.2.1 (by decide) rfl (hC.rf hL.y6) ?_
  refine w_iln rfl ?_
  refine w_aald hL.goa hL.hu.2.2.2.2.2.2.1 (by show (0 : Int) ≤ i; omega) (by show i < ((8 : Nat) : Int); omega) (hC.rf (hL.ot _ (by show i.toNat < 8; omega))) ?_
  refine w_ic ?_
  refine w_dup2 ?_
  refine w_iald (v := (R i.toNat 1)) (hL.gyr _ (by show i.toNat < 8; omega)) hL.hu.2.2.2.2.2.1 (by show (0 : Int) ≤ 1; omega) (by show 1 < ((11 : Nat) : Int); omega) (hC.vR (w := 1) (by show i.toNat < 8; omega) (by decide)) ?_
  refine w_iln rfl ?_
  refine w_sub ⟨by show (-2147483648 : Int) ≤ (R i.toNat 1) - z; omega, by show (R i.toNat 1) - z < (2147483648 : Int); omega⟩ ?_
  refine w_iast (hL.gyr _ (by show i.toNat < 8; omega)) hL.hu.2.2.2.2.2.1 (hL.hu.1 5 (by decide)) (by show (0 : Int) ≤ 1; omega) (by show 1 < ((11 : Nat) : Int); omega) ?_
  have hC1 := hC.op i.toNat
  have hC2 := hC1.pr (w := (1 : Int).toNat) (v := (R i.toNat 1) - z) hL (by show i.toNat < 8; omega)
  refine w_aln rfl ?_
  refine w_gr hL.gy hL.hu.2.1 (by decide) rfl (hC2.rf hL.y6) ?_
  refine w_iln rfl ?_
  refine w_aald hL.goa hL.hu.2.2.2.2.2.2.1 (by show (0 : Int) ≤ i; omega) (by show i < ((8 : Nat) : Int); omega) (hC2.rf (hL.ot _ (by show i.toNat < 8; omega))) ?_
  refine w_ic ?_
  refine w_dup2 ?_
  refine w_iald (v := (R i.toNat 5)) (hL.gyr _ (by show i.toNat < 8; omega)) hL.hu.2.2.2.2.2.1 (by show (0 : Int) ≤ 5; omega) (by show 5 < ((11 : Nat) : Int); omega) ((hC2.rr (w := 5) (by show i.toNat < 8; omega) (by decide)).trans ((rv_up_n (by decide)))) ?_
  refine w_iln rfl ?_
  refine w_add ⟨by show (-2147483648 : Int) ≤ (R i.toNat 5) + z; omega, by show (R i.toNat 5) + z < (2147483648 : Int); omega⟩ ?_
  refine w_iast (hL.gyr _ (by show i.toNat < 8; omega)) hL.hu.2.2.2.2.2.1 (hL.hu.1 5 (by decide)) (by show (0 : Int) ≤ 5; omega) (by show 5 < ((11 : Nat) : Int); omega) ?_
  have hC3 := hC2.pr (w := (5 : Int).toNat) (v := (R i.toNat 5) + z) hL (by show i.toNat < 8; omega)
  refine w_aln rfl ?_
  refine w_dupr ?_
  refine w_gi hL.gy hL.hu.2.1 (by decide) rfl (hC3.f (j := 224) (by decide) (by decide) rfl) ?_
  refine w_iln rfl ?_
  refine w_add ⟨by show (-2147483648 : Int) ≤ (g 224) + z; omega, by show (g 224) + z < (2147483648 : Int); omega⟩ ?_
  refine w_pi hL.gy hL.hu.2.1 (hL.hu.1 0 (by decide)) rfl (fun q => by cases q) ?_
  have hC4 := hC3.pf (j := 224) (v := (g 224) + z) hL (by decide) (by decide) rfl
  exact w_ret (h _ hC4)
theorem ye_ud {f : Nat → Int} {k : Nat} {a b : Int} : ∀ j, j < 12 → rv_up (rv_up f k a) k b j = rv_up f k b j := fun j _ => by
  by_cases e : j = k
  · rw [e, rv_up_s, rv_up_s]
  · rw [rv_up_n e, rv_up_n e, rv_up_n e]
theorem ye_g0 {g : Nat → Int} : ∀ j, 222 ≤ j → j < 232 → g j = rv_up g 224 (g 224 + 0) j := fun j _ _ => by
  by_cases e : j = 224
  · rw [e, rv_up_s, Int.add_zero]
  · rw [rv_up_n e]
theorem r_X10_letByContract {G : mj_G} {M M0 : mj_M} {u : Nat → Nat} {y la lb lc oa pl ta ba wa dl fa sa ca : Nat} {yr tr br : Nat → Nat} {H : Nat → Int} {g A B C : Nat → Int} {R : Nat → Nat → Int} {Q : mj_P} {d : Nat} (hL : yc_L G M0 u y la lb lc oa yr pl ta ba wa tr br dl fa sa ca H) {mi : Int} (hC : yc_S y la lb lc yr M0 g A B C R M) (hm : g 222 = mi) (m0 : 0 ≤ mi ∧ mi ≤ 11) (hF : 1 ≤ H (184 + 3 * mi.toNat) ∧ H (184 + 3 * mi.toNat) ≤ 9) (hS : 0 ≤ H (185 + 3 * mi.toNat) ∧ H (185 + 3 * mi.toNat) ≤ 8) (hP : 0 ≤ H (186 + 3 * mi.toNat) ∧ H (186 + 3 * mi.toNat) ≤ 999) (hU : H (184 + 3 * mi.toNat) ≠ H (185 + 3 * mi.toNat)) (hR : ∀ t, t < 8 → (-1000000 ≤ R t 1 ∧ R t 1 ≤ 1000000) ∧ (-1000000 ≤ R t 5 ∧ R t 5 ≤ 1000000)) (bg : -1000000 ≤ g 224 ∧ g 224 ≤ 1000000) (h : ∀ A1 B1 C1 M, (∀ j, j < 12 → A1 j = rv_up A mi.toNat (ye_le H R mi.toNat).1 j) → (∀ j, j < 12 → B1 j = rv_up B mi.toNat (ye_le H R mi.toNat).2.1 j) → (∀ j, j < 12 → C1 j = rv_up C mi.toNat (ye_le H R mi.toNat).2.2 j) → yc_S y la lb lc yr M0 (rv_up g 224 (g 224 + (ye_le H R mi.toNat).2.2)) A1 B1 C1 (ye_R1 R (ye_le H R mi.toNat).1 (ye_le H R mi.toNat).2.1 (ye_le H R mi.toNat).2.2) M → Q none G M) : mj_R mj_tab (d + 2) 101 [.inr (.inr (some y)), .inr (.inr (some dl))] G M Q := by
  refine ⟨Nat.le_of_ble_eq_true rfl, ?_⟩
  show wz (d + 1) mt_X10_letByContract.2.2.2.2.1 _ mt_X10_letByContract.2.2.2.2.1 [some (.inr (.inr (some y))), some (.inr (.inr (some dl))), none, none, none, none, none] [] G M _ _
  refine w_aln rfl ?_
  refine w_gr hL.gdl rfl (by decide) rfl (hC.rf hL.d0) ?_
  refine w_aln rfl ?_
  refine w_gi hL.gy hL.hu.2.1 (by decide) rfl ((hC.f (j := 222) (by decide) (by decide) rfl).trans hm) ?_
  refine w_iald (v := ((H (184 + 3 * mi.toNat)) - 1)) hL.gfa rfl (by show (0 : Int) ≤ mi; omega) (by show mi < ((12 : Nat) : Int); omega) ((congrFun (hC.oo hL hL.gfa (by decide)) _).trans (hL.nf _ (by show mi.toNat < 12; omega))) ?_
  refine w_isn ?_
  show wz _ _ _ _ [some (.inr (.inr (some y))), some (.inr (.inr (some dl))), some (.inl ((H (184 + 3 * mi.toNat)) - 1)), none, none, none, none] _ _ _ _ _
  refine w_aln rfl ?_
  refine w_gr hL.gdl rfl (by decide) rfl (hC.rf hL.d1) ?_
  refine w_aln rfl ?_
  refine w_gi hL.gy hL.hu.2.1 (by decide) rfl ((hC.f (j := 222) (by decide) (by decide) rfl).trans hm) ?_
  refine w_iald (v := ((H (185 + 3 * mi.toNat)) - 1)) hL.gsa rfl (by show (0 : Int) ≤ mi; omega) (by show mi < ((12 : Nat) : Int); omega) ((congrFun (hC.oo hL hL.gsa (by decide)) _).trans (hL.ns _ (by show mi.toNat < 12; omega))) ?_
  refine w_isn ?_
  show wz _ _ _ _ [some (.inr (.inr (some y))), some (.inr (.inr (some dl))), some (.inl ((H (184 + 3 * mi.toNat)) - 1)), some (.inl ((H (185 + 3 * mi.toNat)) - 1)), none, none, none] _ _ _ _ _
  refine w_aln rfl ?_
  refine w_gr hL.gdl rfl (by decide) rfl (hC.rf hL.d2) ?_
  refine w_aln rfl ?_
  refine w_gi hL.gy hL.hu.2.1 (by decide) rfl ((hC.f (j := 222) (by decide) (by decide) rfl).trans hm) ?_
  refine w_iald (v := (H (186 + 3 * mi.toNat))) hL.gca rfl (by show (0 : Int) ≤ mi; omega) (by show mi < ((12 : Nat) : Int); omega) ((congrFun (hC.oo hL hL.gca (by decide)) _).trans (hL.nc _ (by show mi.toNat < 12; omega))) ?_
  refine w_is ?_
  show wz _ _ _ _ [some (.inr (.inr (some y))), some (.inr (.inr (some dl))), some (.inl ((H (184 + 3 * mi.toNat)) - 1)), some (.inl ((H (185 + 3 * mi.toNat)) - 1)), some (.inl (H (186 + 3 * mi.toNat))), none, none] _ _ _ _ _
  refine w_aln rfl ?_
  refine w_gr hL.gy hL.hu.2.1 (by decide) rfl (hC.rf hL.y3) ?_
  refine w_aln rfl ?_
  refine w_gi hL.gy hL.hu.2.1 (by decide) rfl ((hC.f (j := 222) (by decide) (by decide) rfl).trans hm) ?_
  refine w_bp ?_
  refine w_iast hL.gla hL.hu.2.2.1 (hL.hu.1 1 (by decide)) (by show (0 : Int) ≤ mi; omega) (by show mi < ((12 : Nat) : Int); omega) ?_
  have hC1 := hC.pA (j := mi.toNat) (v := 8) hL
  refine w_aln rfl ?_
  refine w_gr hL.gy hL.hu.2.1 (by decide) rfl (hC1.rf hL.y4) ?_
  refine w_aln rfl ?_
  refine w_gi hL.gy hL.hu.2.1 (by decide) rfl ((hC1.f (j := 222) (by decide) (by decide) rfl).trans hm) ?_
  refine w_ic ?_
  refine w_iast hL.glb hL.hu.2.2.2.1 (hL.hu.1 2 (by decide)) (by show (0 : Int) ≤ mi; omega) (by show mi < ((12 : Nat) : Int); omega) ?_
  have hC2 := hC1.pB (j := mi.toNat) (v := -1) hL
  refine w_aln rfl ?_
  refine w_gr hL.gy hL.hu.2.1 (by decide) rfl (hC2.rf hL.y5) ?_
  refine w_aln rfl ?_
  refine w_gi hL.gy hL.hu.2.1 (by decide) rfl ((hC2.f (j := 222) (by decide) (by decide) rfl).trans hm) ?_
  refine w_ic ?_
  refine w_iast hL.glc hL.hu.2.2.2.2.1 (hL.hu.1 3 (by decide)) (by show (0 : Int) ≤ mi; omega) (by show mi < ((12 : Nat) : Int); omega) ?_
  have hC3 := hC2.pC (j := mi.toNat) (v := 0) hL
  refine w_iln rfl ?_
  refine w_bp ?_
  refine w_cmne (fun c4 => ?_) (fun c4 => ?_)
  · skip
    refine w_iln rfl ?_
    refine w_ic ?_
    refine w_cmne (fun c5 => ?_) (fun c5 => ?_)
    · skip
      refine w_il rfl ?_
      refine w_ic ?_
      refine w_div (by decide) ?_
      intro z6 hz6 ez6
      obtain rfl : z6 = ((H (186 + 3 * mi.toNat)) / 2) := ye_half (by omega) (by omega) ez6
      refine w_is ?_
      show wz _ _ _ _ [some (.inr (.inr (some y))), some (.inr (.inr (some dl))), some (.inl ((H (184 + 3 * mi.toNat)) - 1)), some (.inl ((H (185 + 3 * mi.toNat)) - 1)), some (.inl (H (186 + 3 * mi.toNat))), some (.inl ((H (186 + 3 * mi.toNat)) / 2)), none] _ _ _ _ _
      refine w_iln rfl ?_
      refine w_ic ?_
      refine w_cmeq (fun c7 => ?_) (fun c7 => ?_)
      · exfalso; omega
      · skip
        refine w_aln rfl ?_
        refine w_iln rfl ?_
        refine w_il rfl ?_
        refine w_cv (st := []) rfl hL.gy hL.hu.2.1 (Nat.le_of_ble_eq_true rfl) (fun kk h => h) (r_X10_canPay (d := d) hL hC3 (by show 0 ≤ ((H (185 + 3 * mi.toNat)) - 1) ∧ ((H (185 + 3 * mi.toNat)) - 1) ≤ 7; omega) (fun q8 => ?_) (fun q8 => ?_))
        · skip
          refine w_ifeq (fun c9 => ?_) (fun c9 => ?_)
          · exfalso; omega
          · skip
            refine w_ic ?_
            refine w_goto ?_
            refine w_is ?_
            show wz _ _ _ _ [some (.inr (.inr (some y))), some (.inr (.inr (some dl))), some (.inl ((H (184 + 3 * mi.toNat)) - 1)), some (.inl ((H (185 + 3 * mi.toNat)) - 1)), some (.inl (H (186 + 3 * mi.toNat))), some (.inl ((H (186 + 3 * mi.toNat)) / 2)), some (.inl 1)] _ _ _ _ _
            refine w_aln rfl ?_
            refine w_iln rfl ?_
            refine w_il rfl ?_
            refine w_il rfl ?_
            refine w_sub ⟨by show (-2147483648 : Int) ≤ (H (186 + 3 * mi.toNat)) - ((H (186 + 3 * mi.toNat)) / 2); omega, by show (H (186 + 3 * mi.toNat)) - ((H (186 + 3 * mi.toNat)) / 2) < (2147483648 : Int); omega⟩ ?_
            refine w_cv (st := []) rfl hL.gy hL.hu.2.1 (Nat.le_of_ble_eq_true rfl) (fun kk h => h) (r_X10_canPay (d := d) hL hC3 (by show 0 ≤ ((H (184 + 3 * mi.toNat)) - 1) ∧ ((H (184 + 3 * mi.toNat)) - 1) ≤ 7; omega) (fun q10 => ?_) (fun q10 => ?_))
            · skip
              refine w_ifeq (fun c11 => ?_) (fun c11 => ?_)
              · exfalso; omega
              · skip
                refine w_il rfl ?_
                refine w_ifeq (fun c12 => ?_) (fun c12 => ?_)
                · exfalso; omega
                · skip
                  refine w_aln rfl ?_
                  refine w_gr hL.gy hL.hu.2.1 (by decide) rfl (hC3.rf hL.y3) ?_
                  refine w_aln rfl ?_
                  refine w_gi hL.gy hL.hu.2.1 (by decide) rfl ((hC3.f (j := 222) (by decide) (by decide) rfl).trans hm) ?_
                  refine w_iln rfl ?_
                  refine w_iast hL.gla hL.hu.2.2.1 (hL.hu.1 1 (by decide)) (by show (0 : Int) ≤ mi; omega) (by show mi < ((12 : Nat) : Int); omega) ?_
                  have hC13 := hC3.pA (j := mi.toNat) (v := ((H (184 + 3 * mi.toNat)) - 1)) hL
                  refine w_aln rfl ?_
                  refine w_gr hL.gy hL.hu.2.1 (by decide) rfl (hC13.rf hL.y4) ?_
                  refine w_aln rfl ?_
                  refine w_gi hL.gy hL.hu.2.1 (by decide) rfl ((hC13.f (j := 222) (by decide) (by decide) rfl).trans hm) ?_
                  refine w_iln rfl ?_
                  refine w_iast hL.glb hL.hu.2.2.2.1 (hL.hu.1 2 (by decide)) (by show (0 : Int) ≤ mi; omega) (by show mi < ((12 : Nat) : Int); omega) ?_
                  have hC14 := hC13.pB (j := mi.toNat) (v := ((H (185 + 3 * mi.toNat)) - 1)) hL
                  refine w_aln rfl ?_
                  refine w_gr hL.gy hL.hu.2.1 (by decide) rfl (hC14.rf hL.y5) ?_
                  refine w_aln rfl ?_
                  refine w_gi hL.gy hL.hu.2.1 (by decide) rfl ((hC14.f (j := 222) (by decide) (by decide) rfl).trans hm) ?_
                  refine w_il rfl ?_
                  refine w_iast hL.glc hL.hu.2.2.2.2.1 (hL.hu.1 3 (by decide)) (by show (0 : Int) ≤ mi; omega) (by show mi < ((12 : Nat) : Int); omega) ?_
                  have hC15 := hC14.pC (j := mi.toNat) (v := (H (186 + 3 * mi.toNat))) hL
                  refine w_aln rfl ?_
                  refine w_iln rfl ?_
                  refine w_il rfl ?_
                  refine w_il rfl ?_
                  refine w_sub ⟨by show (-2147483648 : Int) ≤ (H (186 + 3 * mi.toNat)) - ((H (186 + 3 * mi.toNat)) / 2); omega, by show (H (186 + 3 * mi.toNat)) - ((H (186 + 3 * mi.toNat)) / 2) < (2147483648 : Int); omega⟩ ?_
                  refine w_cv (st := []) rfl hL.gy hL.hu.2.1 (Nat.le_of_ble_eq_true rfl) (fun kk h => h) (r_X10_pay (d := d) hL hC15 (by show 0 ≤ ((H (184 + 3 * mi.toNat)) - 1) ∧ ((H (184 + 3 * mi.toNat)) - 1) ≤ 7; omega) (by show -1000 ≤ (H (186 + 3 * mi.toNat)) - ((H (186 + 3 * mi.toNat)) / 2) ∧ (H (186 + 3 * mi.toNat)) - ((H (186 + 3 * mi.toNat)) / 2) ≤ 1000; omega) ((hR _ (by show ((H (184 + 3 * mi.toNat)) - 1).toNat < 8; omega)).1.imp (fun q => by omega) (fun q => by omega)) ((hR _ (by show ((H (184 + 3 * mi.toNat)) - 1).toNat < 8; omega)).2.imp (fun q => by omega) (fun q => by omega)) (by show -10000000 ≤ g 224 ∧ g 224 ≤ 10000000; omega) (fun M16 hC17 => ?_))
                  refine w_iln rfl ?_
                  refine w_ic ?_
                  refine w_cmeq (fun c18 => ?_) (fun c18 => ?_)
                  · exfalso; omega
                  · skip
                    refine w_aln rfl ?_
                    refine w_iln rfl ?_
                    refine w_il rfl ?_
                    refine w_cv (st := []) rfl hL.gy hL.hu.2.1 (Nat.le_of_ble_eq_true rfl) (fun kk h => h) (r_X10_pay (d := d) hL hC17 (by show 0 ≤ ((H (185 + 3 * mi.toNat)) - 1) ∧ ((H (185 + 3 * mi.toNat)) - 1) ≤ 7; omega) (by show -1000 ≤ ((H (186 + 3 * mi.toNat)) / 2) ∧ ((H (186 + 3 * mi.toNat)) / 2) ≤ 1000; omega) (by rw [show (ye_p1 R ((H (184 + 3 * mi.toNat)) - 1) ((H (186 + 3 * mi.toNat)) - ((H (186 + 3 * mi.toNat)) / 2))) ((H (185 + 3 * mi.toNat)) - 1).toNat = R ((H (185 + 3 * mi.toNat)) - 1).toNat from ye_ru_n (by show ((H (185 + 3 * mi.toNat)) - 1).toNat ≠ ((H (184 + 3 * mi.toNat)) - 1).toNat; omega)]; have q := (hR ((H (185 + 3 * mi.toNat)) - 1).toNat (by omega)).1; omega) (by rw [show (ye_p1 R ((H (184 + 3 * mi.toNat)) - 1) ((H (186 + 3 * mi.toNat)) - ((H (186 + 3 * mi.toNat)) / 2))) ((H (185 + 3 * mi.toNat)) - 1).toNat = R ((H (185 + 3 * mi.toNat)) - 1).toNat from ye_ru_n (by show ((H (185 + 3 * mi.toNat)) - 1).toNat ≠ ((H (184 + 3 * mi.toNat)) - 1).toNat; omega)]; have q := (hR ((H (185 + 3 * mi.toNat)) - 1).toNat (by omega)).2; omega) (by rw [show (rv_up g 224 ((g 224) + ((H (186 + 3 * mi.toNat)) - ((H (186 + 3 * mi.toNat)) / 2)))) 224 = (g 224) + ((H (186 + 3 * mi.toNat)) - ((H (186 + 3 * mi.toNat)) / 2)) from rv_up_s]; omega) (fun M19 hC20 => ?_))
                    have ea : ye_a (H (186 + 3 * mi.toNat)) ((H (185 + 3 * mi.toNat)) - 1) = (H (186 + 3 * mi.toNat)) - ((H (186 + 3 * mi.toNat)) / 2) := by unfold ye_a; split <;> omega
                    have el := ye_le2 (R := R) (by omega : 0 < (H (184 + 3 * mi.toNat))) (fun q => by
                      rcases q with q | q | q
                      · omega
                      · exact q (by rw [ea]; exact q10)
                      · exact q.2 q8)
                    rw [el] at h
                    dsimp only at h
                    refine w_ret (h _ _ _ _ (fun j hj => ye_ud j hj) (fun j hj => ye_ud j hj) (fun j hj => ye_ud j hj) (hC20.cg (fun j _ _ => ?_) (fun t w _ _ => ?_)))
                    · by_cases e : j = 224
                      · rw [e, rv_up_s, rv_up_s]; rw [rv_up_s]; omega
                      · rw [rv_up_n e, rv_up_n e]; rw [rv_up_n e]
                    · show _ = ye_R1 R ((H (184 + 3 * mi.toNat)) - 1) ((H (185 + 3 * mi.toNat)) - 1) (H (186 + 3 * mi.toNat)) t w
                      unfold ye_R1; rw [if_neg (by omega), if_neg (by omega)]
                    
            · skip
              refine w_ifeq (fun c21 => ?_) (fun c21 => ?_)
              · skip
                have el := ye_le1 (R := R) (by omega : 0 < (H (184 + 3 * mi.toNat))) (Or.inr (Or.inl (fun q => q10 ⟨q.1, by have q2 := q.2; have ea : ye_a (H (186 + 3 * mi.toNat)) ((H (185 + 3 * mi.toNat)) - 1) = (H (186 + 3 * mi.toNat)) - ((H (186 + 3 * mi.toNat)) / 2) := (by unfold ye_a; split <;> omega); rw [ea] at q2; exact q2⟩)))
                rw [el] at h
                dsimp only at h
                exact w_ret (h _ _ _ _ (fun _ _ => rfl) (fun _ _ => rfl) (fun _ _ => rfl) (hC3.cg ye_g0 (fun t w _ _ => by show R t w = ye_R1 R 8 (-1) 0 t w; unfold ye_R1; rw [if_pos rfl])))
                
              · exfalso; omega
        · skip
          refine w_ifeq (fun c22 => ?_) (fun c22 => ?_)
          · skip
            refine w_ic ?_
            refine w_is ?_
            show wz _ _ _ _ [some (.inr (.inr (some y))), some (.inr (.inr (some dl))), some (.inl ((H (184 + 3 * mi.toNat)) - 1)), some (.inl ((H (185 + 3 * mi.toNat)) - 1)), some (.inl (H (186 + 3 * mi.toNat))), some (.inl ((H (186 + 3 * mi.toNat)) / 2)), some (.inl 0)] _ _ _ _ _
            refine w_aln rfl ?_
            refine w_iln rfl ?_
            refine w_il rfl ?_
            refine w_il rfl ?_
            refine w_sub ⟨by show (-2147483648 : Int) ≤ (H (186 + 3 * mi.toNat)) - ((H (186 + 3 * mi.toNat)) / 2); omega, by show (H (186 + 3 * mi.toNat)) - ((H (186 + 3 * mi.toNat)) / 2) < (2147483648 : Int); omega⟩ ?_
            refine w_cv (st := []) rfl hL.gy hL.hu.2.1 (Nat.le_of_ble_eq_true rfl) (fun kk h => h) (r_X10_canPay (d := d) hL hC3 (by show 0 ≤ ((H (184 + 3 * mi.toNat)) - 1) ∧ ((H (184 + 3 * mi.toNat)) - 1) ≤ 7; omega) (fun q23 => ?_) (fun q23 => ?_))
            · skip
              refine w_ifeq (fun c24 => ?_) (fun c24 => ?_)
              · exfalso; omega
              · skip
                refine w_il rfl ?_
                refine w_ifeq (fun c25 => ?_) (fun c25 => ?_)
                · skip
                  have el := ye_le1 (R := R) (by omega : 0 < (H (184 + 3 * mi.toNat))) (Or.inr (Or.inr ⟨by omega, q8⟩))
                  rw [el] at h
                  dsimp only at h
                  exact w_ret (h _ _ _ _ (fun _ _ => rfl) (fun _ _ => rfl) (fun _ _ => rfl) (hC3.cg ye_g0 (fun t w _ _ => by show R t w = ye_R1 R 8 (-1) 0 t w; unfold ye_R1; rw [if_pos rfl])))
                  
                · exfalso; omega
            · skip
              refine w_ifeq (fun c26 => ?_) (fun c26 => ?_)
              · skip
                have el := ye_le1 (R := R) (by omega : 0 < (H (184 + 3 * mi.toNat))) (Or.inr (Or.inl (fun q => q23 ⟨q.1, by have q2 := q.2; have ea : ye_a (H (186 + 3 * mi.toNat)) ((H (185 + 3 * mi.toNat)) - 1) = (H (186 + 3 * mi.toNat)) - ((H (186 + 3 * mi.toNat)) / 2) := (by unfold ye_a; split <;> omega); rw [ea] at q2; exact q2⟩)))
                rw [el] at h
                dsimp only at h
                exact w_ret (h _ _ _ _ (fun _ _ => rfl) (fun _ _ => rfl) (fun _ _ => rfl) (hC3.cg ye_g0 (fun t w _ _ => by show R t w = ye_R1 R 8 (-1) 0 t w; unfold ye_R1; rw [if_pos rfl])))
                
              · exfalso; omega
          · exfalso; omega
    · skip
      refine w_ic ?_
      refine w_goto ?_
      refine w_is ?_
      show wz _ _ _ _ [some (.inr (.inr (some y))), some (.inr (.inr (some dl))), some (.inl ((H (184 + 3 * mi.toNat)) - 1)), some (.inl ((H (185 + 3 * mi.toNat)) - 1)), some (.inl (H (186 + 3 * mi.toNat))), some (.inl 0), none] _ _ _ _ _
      refine w_iln rfl ?_
      refine w_ic ?_
      refine w_cmeq (fun c27 => ?_) (fun c27 => ?_)
      · skip
        refine w_ic ?_
        refine w_goto ?_
        refine w_is ?_
        show wz _ _ _ _ [some (.inr (.inr (some y))), some (.inr (.inr (some dl))), some (.inl ((H (184 + 3 * mi.toNat)) - 1)), some (.inl ((H (185 + 3 * mi.toNat)) - 1)), some (.inl (H (186 + 3 * mi.toNat))), some (.inl 0), some (.inl 1)] _ _ _ _ _
        refine w_aln rfl ?_
        refine w_iln rfl ?_
        refine w_il rfl ?_
        refine w_il rfl ?_
        refine w_sub ⟨by show (-2147483648 : Int) ≤ (H (186 + 3 * mi.toNat)) - 0; omega, by show (H (186 + 3 * mi.toNat)) - 0 < (2147483648 : Int); omega⟩ ?_
        refine w_cv (st := []) rfl hL.gy hL.hu.2.1 (Nat.le_of_ble_eq_true rfl) (fun kk h => h) (r_X10_canPay (d := d) hL hC3 (by show 0 ≤ ((H (184 + 3 * mi.toNat)) - 1) ∧ ((H (184 + 3 * mi.toNat)) - 1) ≤ 7; omega) (fun q28 => ?_) (fun q28 => ?_))
        · skip
          refine w_ifeq (fun c29 => ?_) (fun c29 => ?_)
          · exfalso; omega
          · skip
            refine w_il rfl ?_
            refine w_ifeq (fun c30 => ?_) (fun c30 => ?_)
            · exfalso; omega
            · skip
              refine w_aln rfl ?_
              refine w_gr hL.gy hL.hu.2.1 (by decide) rfl (hC3.rf hL.y3) ?_
              refine w_aln rfl ?_
              refine w_gi hL.gy hL.hu.2.1 (by decide) rfl ((hC3.f (j := 222) (by decide) (by decide) rfl).trans hm) ?_
              refine w_iln rfl ?_
              refine w_iast hL.gla hL.hu.2.2.1 (hL.hu.1 1 (by decide)) (by show (0 : Int) ≤ mi; omega) (by show mi < ((12 : Nat) : Int); omega) ?_
              have hC31 := hC3.pA (j := mi.toNat) (v := ((H (184 + 3 * mi.toNat)) - 1)) hL
              refine w_aln rfl ?_
              refine w_gr hL.gy hL.hu.2.1 (by decide) rfl (hC31.rf hL.y4) ?_
              refine w_aln rfl ?_
              refine w_gi hL.gy hL.hu.2.1 (by decide) rfl ((hC31.f (j := 222) (by decide) (by decide) rfl).trans hm) ?_
              refine w_iln rfl ?_
              refine w_iast hL.glb hL.hu.2.2.2.1 (hL.hu.1 2 (by decide)) (by show (0 : Int) ≤ mi; omega) (by show mi < ((12 : Nat) : Int); omega) ?_
              have hC32 := hC31.pB (j := mi.toNat) (v := ((H (185 + 3 * mi.toNat)) - 1)) hL
              refine w_aln rfl ?_
              refine w_gr hL.gy hL.hu.2.1 (by decide) rfl (hC32.rf hL.y5) ?_
              refine w_aln rfl ?_
              refine w_gi hL.gy hL.hu.2.1 (by decide) rfl ((hC32.f (j := 222) (by decide) (by decide) rfl).trans hm) ?_
              refine w_il rfl ?_
              refine w_iast hL.glc hL.hu.2.2.2.2.1 (hL.hu.1 3 (by decide)) (by show (0 : Int) ≤ mi; omega) (by show mi < ((12 : Nat) : Int); omega) ?_
              have hC33 := hC32.pC (j := mi.toNat) (v := (H (186 + 3 * mi.toNat))) hL
              refine w_aln rfl ?_
              refine w_iln rfl ?_
              refine w_il rfl ?_
              refine w_il rfl ?_
              refine w_sub ⟨by show (-2147483648 : Int) ≤ (H (186 + 3 * mi.toNat)) - 0; omega, by show (H (186 + 3 * mi.toNat)) - 0 < (2147483648 : Int); omega⟩ ?_
              refine w_cv (st := []) rfl hL.gy hL.hu.2.1 (Nat.le_of_ble_eq_true rfl) (fun kk h => h) (r_X10_pay (d := d) hL hC33 (by show 0 ≤ ((H (184 + 3 * mi.toNat)) - 1) ∧ ((H (184 + 3 * mi.toNat)) - 1) ≤ 7; omega) (by show -1000 ≤ (H (186 + 3 * mi.toNat)) - 0 ∧ (H (186 + 3 * mi.toNat)) - 0 ≤ 1000; omega) ((hR _ (by show ((H (184 + 3 * mi.toNat)) - 1).toNat < 8; omega)).1.imp (fun q => by omega) (fun q => by omega)) ((hR _ (by show ((H (184 + 3 * mi.toNat)) - 1).toNat < 8; omega)).2.imp (fun q => by omega) (fun q => by omega)) (by show -10000000 ≤ g 224 ∧ g 224 ≤ 10000000; omega) (fun M34 hC35 => ?_))
              refine w_iln rfl ?_
              refine w_ic ?_
              refine w_cmeq (fun c36 => ?_) (fun c36 => ?_)
              · skip
                have ea : ye_a (H (186 + 3 * mi.toNat)) ((H (185 + 3 * mi.toNat)) - 1) = (H (186 + 3 * mi.toNat)) - 0 := by unfold ye_a; split <;> omega
                have el := ye_le2 (R := R) (by omega : 0 < (H (184 + 3 * mi.toNat))) (fun q => by
                  rcases q with q | q | q
                  · omega
                  · exact q (by rw [ea]; exact q28)
                  · omega)
                rw [el] at h
                dsimp only at h
                refine w_ret (h _ _ _ _ (fun j hj => ye_ud j hj) (fun j hj => ye_ud j hj) (fun j hj => ye_ud j hj) (hC35.cg (fun j _ _ => ?_) (fun t w _ _ => ?_)))
                · by_cases e : j = 224
                  · rw [e, rv_up_s, rv_up_s]; omega
                  · rw [rv_up_n e, rv_up_n e]
                · show _ = ye_R1 R ((H (184 + 3 * mi.toNat)) - 1) ((H (185 + 3 * mi.toNat)) - 1) (H (186 + 3 * mi.toNat)) t w
                  unfold ye_R1; rw [if_neg (by omega), if_pos (by omega)]; rw [show (H (186 + 3 * mi.toNat)) - 0 = (H (186 + 3 * mi.toNat)) by omega]
                
              · exfalso; omega
        · skip
          refine w_ifeq (fun c37 => ?_) (fun c37 => ?_)
          · skip
            have el := ye_le1 (R := R) (by omega : 0 < (H (184 + 3 * mi.toNat))) (Or.inr (Or.inl (fun q => q28 ⟨q.1, by have q2 := q.2; have ea : ye_a (H (186 + 3 * mi.toNat)) ((H (185 + 3 * mi.toNat)) - 1) = (H (186 + 3 * mi.toNat)) - 0 := (by unfold ye_a; split <;> omega); rw [ea] at q2; exact q2⟩)))
            rw [el] at h
            dsimp only at h
            exact w_ret (h _ _ _ _ (fun _ _ => rfl) (fun _ _ => rfl) (fun _ _ => rfl) (hC3.cg ye_g0 (fun t w _ _ => by show R t w = ye_R1 R 8 (-1) 0 t w; unfold ye_R1; rw [if_pos rfl])))
            
          · exfalso; omega
      · exfalso; omega
  · skip
    have el := ye_le1 (R := R) (by omega : 0 < (H (184 + 3 * mi.toNat))) (Or.inl (by omega))
    rw [el] at h
    dsimp only at h
    exact w_ret (h _ _ _ _ (fun _ _ => rfl) (fun _ _ => rfl) (fun _ _ => rfl) (hC3.cg ye_g0 (fun t w _ _ => by show R t w = ye_R1 R 8 (-1) 0 t w; unfold ye_R1; rw [if_pos rfl])))
    
theorem r_bidsC {G : mj_G} {M M0 : mj_M} {u : Nat → Nat} {y la lb lc oa pl ta ba wa dl fa sa ca : Nat} {yr tr br : Nat → Nat} {H : Nat → Int} {g A B C : Nat → Int} {R : Nat → Nat → Int} {Q : mj_P} {d : Nat} (hL : yc_L G M0 u y la lb lc oa yr pl ta ba wa tr br dl fa sa ca H) {mi : Int} (hC : yc_S y la lb lc yr M0 g A B C R M) (hm : g 222 = mi) (m0 : 0 ≤ mi ∧ mi ≤ 11) (hH : 0 ≤ H 0 ∧ H 0 ≤ 8) (hB : ∀ t, t < 8 → 0 ≤ H (88 + 12 * t + mi.toNat) ∧ H (88 + 12 * t + mi.toNat) ≤ 999) : ∀ (n : Nat) (i wh mo : Int) (z : Option mj_V) (cb sb : Nat), i + n = H 0 → 0 ≤ i → ye_bb H R mi.toNat i.toNat = (wh, mo) → (∀ wh mo z, ye_bb H R mi.toNat (H 0).toNat = (wh, mo) → wz (d + 1) mt_X10_letByBids.2.2.2.2.1 Q (mt_X10_letByBids.2.2.2.2.1.drop 32) [some (.inr (.inr (some y))), some (.inr (.inr (some pl))), some (.inl wh), some (.inl mo), some (.inl (H 0)), z] [] G M cb sb) → wz (d + 1) mt_X10_letByBids.2.2.2.2.1 Q (mt_X10_letByBids.2.2.2.2.1.drop 6) [some (.inr (.inr (some y))), some (.inr (.inr (some pl))), some (.inl wh), some (.inl mo), some (.inl i), z] [] G M cb sb := by
  intro n
  induction n with
  | zero =>
    intro i wh mo z cb sb e i0 hb h
    obtain rfl : i = H 0 := by omega
    refine w_il rfl ?_
    refine w_aln rfl ?_
    refine w_gi hL.gpl rfl (by decide) rfl ((congrFun (hC.oo hL hL.gpl (by decide)) 4).trans hL.n4) ?_
    refine w_cmge (fun c1 => ?_) (fun c1 => ?_)
    · skip
      exact h _ _ _ hb
    · exfalso; omega
  | succ n ih =>
    intro i wh mo z cb sb e i0 hb h
    have hbi := hB i.toNat (by omega)
    have et : (i + 1).toNat = i.toNat + 1 := by omega
    refine w_il rfl ?_
    refine w_aln rfl ?_
    refine w_gi hL.gpl rfl (by decide) rfl ((congrFun (hC.oo hL hL.gpl (by decide)) 4).trans hL.n4) ?_
    refine w_cmge (fun c1 => ?_) (fun c1 => ?_)
    · exfalso; omega
    · skip
      refine w_aln rfl ?_
      refine w_gr hL.gpl rfl (by decide) rfl (hC.rf hL.p2) ?_
      refine w_il rfl ?_
      refine w_aald hL.gba rfl (by show (0 : Int) ≤ i; omega) (by show i < ((8 : Nat) : Int); omega) (hC.rf (hL.bt _ (by show i.toNat < 8; omega))) ?_
      refine w_aln rfl ?_
      refine w_gi hL.gy hL.hu.2.1 (by decide) rfl ((hC.f (j := 222) (by decide) (by decide) rfl).trans hm) ?_
      refine w_iald (v := (H (88 + 12 * i.toNat + mi.toNat))) (hL.gbr _ (by show i.toNat < 8; omega)) rfl (by show (0 : Int) ≤ mi; omega) (by show mi < ((12 : Nat) : Int); omega) ((congrFun (hC.oo hL (hL.gbr _ (by show i.toNat < 8; omega)) (by decide)) _).trans (hL.nb _ _ (by show i.toNat < 8; omega) (by show mi.toNat < 12; omega))) ?_
      refine w_is ?_
      show wz _ _ _ _ [some (.inr (.inr (some y))), some (.inr (.inr (some pl))), some (.inl wh), some (.inl mo), some (.inl i), some (.inl (H (88 + 12 * i.toNat + mi.toNat)))] _ _ _ _ _
      refine w_il rfl ?_
      refine w_iln rfl ?_
      refine w_cmle (fun c2 => ?_) (fun c2 => ?_)
      · skip
        refine w_ii rfl ⟨by show (-2147483648 : Int) ≤ i + 1; omega, by show i + 1 < (2147483648 : Int); omega⟩ ?_
        show wz _ _ _ _ [some (.inr (.inr (some y))), some (.inr (.inr (some pl))), some (.inl wh), some (.inl mo), some (.inl (i + 1)), some (.inl (H (88 + 12 * i.toNat + mi.toNat)))] _ _ _ _ _
        refine w_goto ?_
        refine ih (i + 1) _ _ _ _ _ (by omega) (by omega) ?_ h
        rw [et]
        show (if (ye_bb H R mi.toNat i.toNat).2 < _ ∧ _ then _ else _) = _
        rw [hb, if_neg (fun q => by have q1 : mo < _ := q.1; omega)]
      · skip
        refine w_aln rfl ?_
        refine w_il rfl ?_
        refine w_il rfl ?_
        refine w_cv (st := []) rfl hL.gy hL.hu.2.1 (Nat.le_of_ble_eq_true rfl) (fun kk h => h) (r_X10_canPay (d := d) hL hC (by show 0 ≤ i ∧ i ≤ 7; omega) (fun q3 => ?_) (fun q3 => ?_))
        · skip
          refine w_ifeq (fun c4 => ?_) (fun c4 => ?_)
          · exfalso; omega
          · skip
            refine w_il rfl ?_
            refine w_isn ?_
            show wz _ _ _ _ [some (.inr (.inr (some y))), some (.inr (.inr (some pl))), some (.inl wh), some (.inl (H (88 + 12 * i.toNat + mi.toNat))), some (.inl i), some (.inl (H (88 + 12 * i.toNat + mi.toNat)))] _ _ _ _ _
            refine w_il rfl ?_
            refine w_isn ?_
            show wz _ _ _ _ [some (.inr (.inr (some y))), some (.inr (.inr (some pl))), some (.inl i), some (.inl (H (88 + 12 * i.toNat + mi.toNat))), some (.inl i), some (.inl (H (88 + 12 * i.toNat + mi.toNat)))] _ _ _ _ _
            refine w_ii rfl ⟨by show (-2147483648 : Int) ≤ i + 1; omega, by show i + 1 < (2147483648 : Int); omega⟩ ?_
            show wz _ _ _ _ [some (.inr (.inr (some y))), some (.inr (.inr (some pl))), some (.inl i), some (.inl (H (88 + 12 * i.toNat + mi.toNat))), some (.inl (i + 1)), some (.inl (H (88 + 12 * i.toNat + mi.toNat)))] _ _ _ _ _
            refine w_goto ?_
            refine ih (i + 1) _ _ _ _ _ (by omega) (by omega) ?_ h
            rw [et]
            show (if (ye_bb H R mi.toNat i.toNat).2 < _ ∧ _ then _ else _) = _
            rw [hb, if_pos ⟨by omega, q3⟩, Int.toNat_of_nonneg i0]
        · skip
          refine w_ifeq (fun c5 => ?_) (fun c5 => ?_)
          · skip
            refine w_ii rfl ⟨by show (-2147483648 : Int) ≤ i + 1; omega, by show i + 1 < (2147483648 : Int); omega⟩ ?_
            show wz _ _ _ _ [some (.inr (.inr (some y))), some (.inr (.inr (some pl))), some (.inl wh), some (.inl mo), some (.inl (i + 1)), some (.inl (H (88 + 12 * i.toNat + mi.toNat)))] _ _ _ _ _
            refine w_goto ?_
            refine ih (i + 1) _ _ _ _ _ (by omega) (by omega) ?_ h
            rw [et]
            show (if (ye_bb H R mi.toNat i.toNat).2 < _ ∧ _ then _ else _) = _
            rw [hb, if_neg (fun q => q3 q.2)]
          · exfalso; omega
theorem r_X10_letByBids {G : mj_G} {M M0 : mj_M} {u : Nat → Nat} {y la lb lc oa pl ta ba wa dl fa sa ca : Nat} {yr tr br : Nat → Nat} {H : Nat → Int} {g A B C : Nat → Int} {R : Nat → Nat → Int} {Q : mj_P} {d : Nat} (hL : yc_L G M0 u y la lb lc oa yr pl ta ba wa tr br dl fa sa ca H) {mi : Int} (hC : yc_S y la lb lc yr M0 g A B C R M) (hm : g 222 = mi) (m0 : 0 ≤ mi ∧ mi ≤ 11) (hF : H (184 + 3 * mi.toNat) ≤ 0) (hH : 0 ≤ H 0 ∧ H 0 ≤ 8) (hB : ∀ t, t < 8 → 0 ≤ H (88 + 12 * t + mi.toNat) ∧ H (88 + 12 * t + mi.toNat) ≤ 999) (hR : ∀ t, t < 8 → (-1000000 ≤ R t 1 ∧ R t 1 ≤ 1000000) ∧ (-1000000 ≤ R t 5 ∧ R t 5 ≤ 1000000)) (bg : -1000000 ≤ g 224 ∧ g 224 ≤ 1000000) (h : ∀ A1 B1 C1 M, (∀ j, j < 12 → A1 j = rv_up A mi.toNat (ye_le H R mi.toNat).1 j) → (∀ j, j < 12 → B1 j = rv_up B mi.toNat (ye_le H R mi.toNat).2.1 j) → (∀ j, j < 12 → C1 j = rv_up C mi.toNat (ye_le H R mi.toNat).2.2 j) → yc_S y la lb lc yr M0 (rv_up g 224 (g 224 + (ye_le H R mi.toNat).2.2)) A1 B1 C1 (ye_R1 R (ye_le H R mi.toNat).1 (ye_le H R mi.toNat).2.1 (ye_le H R mi.toNat).2.2) M → Q none G M) : mj_R mj_tab (d + 2) 100 [.inr (.inr (some y)), .inr (.inr (some pl))] G M Q := by
  refine ⟨Nat.le_of_ble_eq_true rfl, ?_⟩
  show wz (d + 1) mt_X10_letByBids.2.2.2.2.1 _ mt_X10_letByBids.2.2.2.2.1 [some (.inr (.inr (some y))), some (.inr (.inr (some pl))), none, none, none, none] [] G M _ _
  refine w_bp ?_
  refine w_isn ?_
  show wz _ _ _ _ [some (.inr (.inr (some y))), some (.inr (.inr (some pl))), some (.inl 8), none, none, none] _ _ _ _ _
  refine w_ic ?_
  refine w_isn ?_
  show wz _ _ _ _ [some (.inr (.inr (some y))), some (.inr (.inr (some pl))), some (.inl 8), some (.inl 0), none, none] _ _ _ _ _
  refine w_ic ?_
  refine w_is ?_
  show wz _ _ _ _ [some (.inr (.inr (some y))), some (.inr (.inr (some pl))), some (.inl 8), some (.inl 0), some (.inl 0), none] _ _ _ _ _
  refine r_bidsC (d := d) hL hC hm m0 hH hB (H 0).toNat 0 8 0 _ _ _ (by omega) (by decide) rfl (fun wh mo z hb => ?_)
  have bb := ye_bb_b (R := R) hB (H 0).toNat (by omega)
  rw [hb] at bb
  have b1 : (0 ≤ mo ∧ mo ≤ 999) ∧ ((wh = 8 ∧ mo = 0) ∨ (0 ≤ wh ∧ wh < ((H 0).toNat : Int))) := ⟨bb.1, bb.2.imp id (fun q => ⟨q.1, q.2.1⟩)⟩
  obtain ⟨b1, b2⟩ := b1
  refine w_aln rfl ?_
  refine w_gr hL.gy hL.hu.2.1 (by decide) rfl (hC.rf hL.y3) ?_
  refine w_aln rfl ?_
  refine w_gi hL.gy hL.hu.2.1 (by decide) rfl ((hC.f (j := 222) (by decide) (by decide) rfl).trans hm) ?_
  refine w_iln rfl ?_
  refine w_iast hL.gla hL.hu.2.2.1 (hL.hu.1 1 (by decide)) (by show (0 : Int) ≤ mi; omega) (by show mi < ((12 : Nat) : Int); omega) ?_
  have hC1 := hC.pA (j := mi.toNat) (v := wh) hL
  refine w_aln rfl ?_
  refine w_gr hL.gy hL.hu.2.1 (by decide) rfl (hC1.rf hL.y4) ?_
  refine w_aln rfl ?_
  refine w_gi hL.gy hL.hu.2.1 (by decide) rfl ((hC1.f (j := 222) (by decide) (by decide) rfl).trans hm) ?_
  refine w_ic ?_
  refine w_iast hL.glb hL.hu.2.2.2.1 (hL.hu.1 2 (by decide)) (by show (0 : Int) ≤ mi; omega) (by show mi < ((12 : Nat) : Int); omega) ?_
  have hC2 := hC1.pB (j := mi.toNat) (v := -1) hL
  refine w_aln rfl ?_
  refine w_gr hL.gy hL.hu.2.1 (by decide) rfl (hC2.rf hL.y5) ?_
  refine w_aln rfl ?_
  refine w_gi hL.gy hL.hu.2.1 (by decide) rfl ((hC2.f (j := 222) (by decide) (by decide) rfl).trans hm) ?_
  refine w_iln rfl ?_
  refine w_iast hL.glc hL.hu.2.2.2.2.1 (hL.hu.1 3 (by decide)) (by show (0 : Int) ≤ mi; omega) (by show mi < ((12 : Nat) : Int); omega) ?_
  have hC3 := hC2.pC (j := mi.toNat) (v := mo) hL
  refine w_iln rfl ?_
  refine w_bp ?_
  refine w_cmeq (fun c4 => ?_) (fun c4 => ?_)
  · skip
    have el := ye_le3 (R := R) (by omega : ¬ 0 < H (184 + 3 * mi.toNat))
    rw [hb] at el
    rw [el] at h
    dsimp only at h
    obtain ⟨e8, e0⟩ : wh = 8 ∧ mo = 0 := by omega
    subst e8 e0
    exact w_ret (h _ _ _ _ (fun _ _ => rfl) (fun _ _ => rfl) (fun _ _ => rfl) (hC3.cg ye_g0 (fun t w _ _ => by show R t w = ye_R1 R 8 (-1) 0 t w; unfold ye_R1; rw [if_pos rfl])))
  · skip
    refine w_aln rfl ?_
    refine w_iln rfl ?_
    refine w_iln rfl ?_
    refine w_cv (st := []) rfl hL.gy hL.hu.2.1 (Nat.le_of_ble_eq_true rfl) (fun kk h => h) (r_X10_pay (d := d) hL hC3 (by show 0 ≤ wh ∧ wh ≤ 7; omega) (by show -1000 ≤ mo ∧ mo ≤ 1000; omega) ((hR _ (by show wh.toNat < 8; omega)).1.imp (fun q => by omega) (fun q => by omega)) ((hR _ (by show wh.toNat < 8; omega)).2.imp (fun q => by omega) (fun q => by omega)) (by show -10000000 ≤ g 224 ∧ g 224 ≤ 10000000; omega) (fun M5 hC6 => ?_))
    have el := ye_le3 (R := R) (by omega : ¬ 0 < H (184 + 3 * mi.toNat))
    rw [hb] at el
    rw [el] at h
    dsimp only at h
    refine w_ret (h _ _ _ _ (fun _ _ => rfl) (fun _ _ => rfl) (fun _ _ => rfl) (hC6.cg (fun j _ _ => rfl) (fun t w _ _ => ?_)))
    show _ = ye_R1 R wh (-1) mo t w; unfold ye_R1; rw [if_neg (by omega), if_pos (by decide)]
theorem ye_mulb {a b : Int} (h1 : 0 ≤ a) (h2 : a ≤ 99) (h3 : 0 ≤ b) (h4 : b ≤ 8) : 0 ≤ a * b ∧ a * b ≤ 792 := ⟨Int.mul_nonneg h1 h3, by have := Int.mul_le_mul h2 h4 h3 (by decide : (0 : Int) ≤ 99); omega⟩
theorem r_X10_bridgeTo {G : mj_G} {M M0 : mj_M} {u : Nat → Nat} {y la lb lc oa pl ta ba wa dl fa sa ca : Nat} {yr tr br : Nat → Nat} {H : Nat → Int} {g A B C : Nat → Int} {R : Nat → Nat → Int} {Q : mj_P} {d : Nat} (hL : yc_L G M0 u y la lb lc oa yr pl ta ba wa tr br dl fa sa ca H) {mi k : Int} (hC : yc_S y la lb lc yr M0 g A B C R M) (hm : g 222 = mi) (m0 : 0 ≤ mi ∧ mi ≤ 11) (hk : k = 8 ∨ k = -1 ∨ (0 ≤ k ∧ k ≤ 7)) (h : Q (some (.inl (ye_br H A B mi.toNat k))) G M) : mj_R mj_tab (d + 1) 88 [.inr (.inr (some y)), .inr (.inr (some pl)), .inl k] G M Q := by
  refine ⟨Nat.le_of_ble_eq_true rfl, ?_⟩
  show wz d mt_X10_bridgeTo.2.2.2.2.1 _ mt_X10_bridgeTo.2.2.2.2.1 [some (.inr (.inr (some y))), some (.inr (.inr (some pl))), some (.inl k), none, none] [] G M _ _
  refine w_iln rfl ?_
  refine w_bp ?_
  refine w_cmeq (fun c1 => ?_) (fun c1 => ?_)
  · skip
    refine w_ic ?_
    have eb : ye_br H A B mi.toNat k = 0 := by
      unfold ye_br
      rw [show mi.toNat - 1 = (mi - 1).toNat by omega]
      first | (rw [if_pos (by omega)]; done) | (rw [if_neg (by omega), if_pos (by omega)]; done) | (rw [if_neg (by omega), if_neg (by omega)]; done)
    rw [eb] at h
    exact w_iret (fun q => by cases q) h
  · skip
    refine w_iln rfl ?_
    refine w_ic ?_
    refine w_cmne (fun c2 => ?_) (fun c2 => ?_)
    · skip
      refine w_aln rfl ?_
      refine w_gi hL.gy hL.hu.2.1 (by decide) rfl ((hC.f (j := 222) (by decide) (by decide) rfl).trans hm) ?_
      refine w_ic ?_
      refine w_sub ⟨by show (-2147483648 : Int) ≤ mi - 1; omega, by show mi - 1 < (2147483648 : Int); omega⟩ ?_
      refine w_isn ?_
      show wz _ _ _ _ [some (.inr (.inr (some y))), some (.inr (.inr (some pl))), some (.inl k), some (.inl (mi - 1)), none] _ _ _ _ _
      refine w_iln rfl ?_
      refine w_iflt (fun c3 => ?_) (fun c3 => ?_)
      · skip
        refine w_ic ?_
        refine w_is ?_
        show wz _ _ _ _ [some (.inr (.inr (some y))), some (.inr (.inr (some pl))), some (.inl k), some (.inl (mi - 1)), some (.inl 0)] _ _ _ _ _
        refine w_il rfl ?_
        refine w_ifeq (fun c4 => ?_) (fun c4 => ?_)
        · skip
          refine w_aln rfl ?_
          refine w_gr hL.gpl rfl (by decide) rfl (hC.rf hL.p1) ?_
          refine w_iln rfl ?_
          refine w_aald hL.gta rfl (by show (0 : Int) ≤ k; omega) (by show k < ((8 : Nat) : Int); omega) (hC.rf (hL.tt _ (by show k.toNat < 8; omega))) ?_
          refine w_bp ?_
          refine w_iald (v := (H (10 + 9 * k.toNat))) (hL.gtr _ (by show k.toNat < 8; omega)) rfl (by show (0 : Int) ≤ 6; omega) (by show 6 < ((9 : Nat) : Int); omega) (((congrFun (hC.oo hL (hL.gtr _ (by show k.toNat < 8; omega)) (by decide)) _).trans (hL.nt _ 6 (by show k.toNat < 8; omega) (by decide))).trans (congrArg H (show 4 + 9 * k.toNat + 6 = 10 + 9 * k.toNat by omega))) ?_
          have eb : ye_br H A B mi.toNat k = (H (10 + 9 * k.toNat)) := by
            unfold ye_br
            rw [show mi.toNat - 1 = (mi - 1).toNat by omega]
            first | (rw [if_pos (by omega)]; done) | (rw [if_neg (by omega), if_pos (by omega)]; done) | (rw [if_neg (by omega), if_neg (by omega)]; done)
          rw [eb] at h
          exact w_iret (fun q => by cases q) h
        · exfalso; omega
      · skip
        refine w_aln rfl ?_
        refine w_gr hL.gy hL.hu.2.1 (by decide) rfl (hC.rf hL.y3) ?_
        refine w_iln rfl ?_
        refine w_iald (v := (A (mi - 1).toNat)) hL.gla hL.hu.2.2.1 (by show (0 : Int) ≤ mi - 1; omega) (by show mi - 1 < ((12 : Nat) : Int); omega) (hC.vA (by show (mi - 1).toNat < 12; omega)) ?_
        refine w_iln rfl ?_
        refine w_cmeq (fun c5 => ?_) (fun c5 => ?_)
        · skip
          refine w_ic ?_
          refine w_goto ?_
          refine w_is ?_
          show wz _ _ _ _ [some (.inr (.inr (some y))), some (.inr (.inr (some pl))), some (.inl k), some (.inl (mi - 1)), some (.inl 1)] _ _ _ _ _
          refine w_il rfl ?_
          refine w_ifeq (fun c6 => ?_) (fun c6 => ?_)
          · exfalso; omega
          · skip
            refine w_ic ?_
            refine w_goto ?_
            have eb : ye_br H A B mi.toNat k = 0 := by
              unfold ye_br
              rw [show mi.toNat - 1 = (mi - 1).toNat by omega]
              first | (rw [if_pos (by omega)]; done) | (rw [if_neg (by omega), if_pos (by omega)]; done) | (rw [if_neg (by omega), if_neg (by omega)]; done)
            rw [eb] at h
            exact w_iret (fun q => by cases q) h
        · skip
          refine w_aln rfl ?_
          refine w_gr hL.gy hL.hu.2.1 (by decide) rfl (hC.rf hL.y4) ?_
          refine w_iln rfl ?_
          refine w_iald (v := (B (mi - 1).toNat)) hL.glb hL.hu.2.2.2.1 (by show (0 : Int) ≤ mi - 1; omega) (by show mi - 1 < ((12 : Nat) : Int); omega) (hC.vB (by show (mi - 1).toNat < 12; omega)) ?_
          refine w_iln rfl ?_
          refine w_cmne (fun c7 => ?_) (fun c7 => ?_)
          · skip
            refine w_ic ?_
            refine w_is ?_
            show wz _ _ _ _ [some (.inr (.inr (some y))), some (.inr (.inr (some pl))), some (.inl k), some (.inl (mi - 1)), some (.inl 0)] _ _ _ _ _
            refine w_il rfl ?_
            refine w_ifeq (fun c8 => ?_) (fun c8 => ?_)
            · skip
              refine w_aln rfl ?_
              refine w_gr hL.gpl rfl (by decide) rfl (hC.rf hL.p1) ?_
              refine w_iln rfl ?_
              refine w_aald hL.gta rfl (by show (0 : Int) ≤ k; omega) (by show k < ((8 : Nat) : Int); omega) (hC.rf (hL.tt _ (by show k.toNat < 8; omega))) ?_
              refine w_bp ?_
              refine w_iald (v := (H (10 + 9 * k.toNat))) (hL.gtr _ (by show k.toNat < 8; omega)) rfl (by show (0 : Int) ≤ 6; omega) (by show 6 < ((9 : Nat) : Int); omega) (((congrFun (hC.oo hL (hL.gtr _ (by show k.toNat < 8; omega)) (by decide)) _).trans (hL.nt _ 6 (by show k.toNat < 8; omega) (by decide))).trans (congrArg H (show 4 + 9 * k.toNat + 6 = 10 + 9 * k.toNat by omega))) ?_
              have eb : ye_br H A B mi.toNat k = (H (10 + 9 * k.toNat)) := by
                unfold ye_br
                rw [show mi.toNat - 1 = (mi - 1).toNat by omega]
                first | (rw [if_pos (by omega)]; done) | (rw [if_neg (by omega), if_pos (by omega)]; done) | (rw [if_neg (by omega), if_neg (by omega)]; done)
              rw [eb] at h
              exact w_iret (fun q => by cases q) h
            · exfalso; omega
          · skip
            refine w_ic ?_
            refine w_goto ?_
            refine w_is ?_
            show wz _ _ _ _ [some (.inr (.inr (some y))), some (.inr (.inr (some pl))), some (.inl k), some (.inl (mi - 1)), some (.inl 1)] _ _ _ _ _
            refine w_il rfl ?_
            refine w_ifeq (fun c9 => ?_) (fun c9 => ?_)
            · exfalso; omega
            · skip
              refine w_ic ?_
              refine w_goto ?_
              have eb : ye_br H A B mi.toNat k = 0 := by
                unfold ye_br
                rw [show mi.toNat - 1 = (mi - 1).toNat by omega]
                first | (rw [if_pos (by omega)]; done) | (rw [if_neg (by omega), if_pos (by omega)]; done) | (rw [if_neg (by omega), if_neg (by omega)]; done)
              rw [eb] at h
              exact w_iret (fun q => by cases q) h
    · skip
      refine w_ic ?_
      have eb : ye_br H A B mi.toNat k = 0 := by
        unfold ye_br
        rw [show mi.toNat - 1 = (mi - 1).toNat by omega]
        first | (rw [if_pos (by omega)]; done) | (rw [if_neg (by omega), if_pos (by omega)]; done) | (rw [if_neg (by omega), if_neg (by omega)]; done)
      rw [eb] at h
      exact w_iret (fun q => by cases q) h
theorem ye_br_b {H A B : Nat → Int} {m : Nat} {k : Int} (hT : ∀ j, 4 ≤ j → j < 76 → 0 ≤ H j ∧ H j ≤ 999) (hk : k = 8 ∨ k = -1 ∨ (0 ≤ k ∧ k ≤ 7)) : 0 ≤ ye_br H A B m k ∧ ye_br H A B m k ≤ 999 := by
  unfold ye_br
  by_cases c : k = 8 ∨ k = -1
  · rw [if_pos c]; omega
  · rw [if_neg c]
    by_cases c2 : 0 < m ∧ (A (m - 1) = k ∨ B (m - 1) = k)
    · rw [if_pos c2]; omega
    · rw [if_neg c2]; exact hT _ (by omega) (by omega)
theorem r_X10_moveRiver {G : mj_G} {M M0 : mj_M} {u : Nat → Nat} {y la lb lc oa pl ta ba wa dl fa sa ca : Nat} {yr tr br : Nat → Nat} {H : Nat → Int} {g A B C : Nat → Int} {R : Nat → Nat → Int} {Q : mj_P} {d : Nat} (hL : yc_L G M0 u y la lb lc oa yr pl ta ba wa tr br dl fa sa ca H) {mi : Int} (hC : yc_S y la lb lc yr M0 g A B C R M) (hm : g 222 = mi) (m0 : 0 ≤ mi ∧ mi ≤ 11) (hH : 0 ≤ H 0 ∧ H 0 ≤ 8) (h1 : 0 ≤ H 1 ∧ H 1 ≤ 99) (hT : ∀ j, 4 ≤ j → j < 76 → 0 ≤ H j ∧ H j ≤ 999) (hl : A mi.toNat = 8 ∨ (0 ≤ A mi.toNat ∧ A mi.toNat < H 0)) (ho : B mi.toNat = -1 ∨ (0 ≤ B mi.toNat ∧ B mi.toNat < H 0)) (h3 : g 223 = 8 ∨ (0 ≤ g 223 ∧ g 223 < H 0)) (b4 : -1000000 ≤ g 224 ∧ g 224 ≤ 1000000) (b5 : 0 ≤ g 225 ∧ g 225 ≤ 999) (b6 : -1000000 ≤ g 231 ∧ g 231 ≤ 1000000) (h : ∀ M, yc_S y la lb lc yr M0 (ye_g1 H g A B mi.toNat (A mi.toNat) (B mi.toNat) 0) A B C R M → Q none G M) : mj_R mj_tab (d + 2) 102 [.inr (.inr (some y)), .inr (.inr (some pl))] G M Q := by
  refine ⟨Nat.le_of_ble_eq_true rfl, ?_⟩
  show wz (d + 1) mt_X10_moveRiver.2.2.2.2.1 _ mt_X10_moveRiver.2.2.2.2.1 [some (.inr (.inr (some y))), some (.inr (.inr (some pl))), none, none, none] [] G M _ _
  refine w_aln rfl ?_
  refine w_gr hL.gy hL.hu.2.1 (by decide) rfl (hC.rf hL.y3) ?_
  refine w_aln rfl ?_
  refine w_gi hL.gy hL.hu.2.1 (by decide) rfl ((hC.f (j := 222) (by decide) (by decide) rfl).trans hm) ?_
  refine w_iald (v := (A mi.toNat)) hL.gla hL.hu.2.2.1 (by show (0 : Int) ≤ mi; omega) (by show mi < ((12 : Nat) : Int); omega) (hC.vA (by show mi.toNat < 12; omega)) ?_
  refine w_isn ?_
  show wz _ _ _ _ [some (.inr (.inr (some y))), some (.inr (.inr (some pl))), some (.inl (A mi.toNat)), none, none] _ _ _ _ _
  refine w_aln rfl ?_
  refine w_iln rfl ?_
  refine w_cv (st := []) rfl hL.gpl rfl (Nat.le_of_ble_eq_true rfl) (fun kk h => h) ⟨Nat.le_of_ble_eq_true rfl, ?_⟩
  show wz (d) mt_X3_placeOf.2.2.2.2.1 _ mt_X3_placeOf.2.2.2.2.1 [some (.inr (.inr (some pl))), some (.inl (A mi.toNat))] [] _ _ _ _
  refine w_iln rfl ?_
  refine w_bp ?_
  refine w_cmne (fun c1 => ?_) (fun c1 => ?_)
  · skip
    refine w_iln rfl ?_
    refine w_iret (fun q => by cases q) ?_
    refine w_aln rfl ?_
    refine w_aln rfl ?_
    refine w_gi hL.gy hL.hu.2.1 (by decide) rfl (hC.f (j := 223) (by decide) (by decide) rfl) ?_
    refine w_cv (st := [.inl (A mi.toNat)]) rfl hL.gpl rfl (Nat.le_of_ble_eq_true rfl) (fun kk h => h) ⟨Nat.le_of_ble_eq_true rfl, ?_⟩
    show wz (d) mt_X3_placeOf.2.2.2.2.1 _ mt_X3_placeOf.2.2.2.2.1 [some (.inr (.inr (some pl))), some (.inl (g 223))] [] _ _ _ _
    refine w_iln rfl ?_
    refine w_bp ?_
    refine w_cmne (fun c2 => ?_) (fun c2 => ?_)
    · skip
      refine w_iln rfl ?_
      refine w_iret (fun q => by cases q) ?_
      refine w_sub ⟨by show (-2147483648 : Int) ≤ (A mi.toNat) - (g 223); omega, by show (A mi.toNat) - (g 223) < (2147483648 : Int); omega⟩ ?_
      refine w_abs (Nat.le_of_ble_eq_true rfl) ?_
      intro z3 fz3 gz3
      refine w_isn ?_
      show wz _ _ _ _ [some (.inr (.inr (some y))), some (.inr (.inr (some pl))), some (.inl (A mi.toNat)), some (.inl z3), none] _ _ _ _ _
      refine w_aln rfl ?_
      refine w_gi hL.gpl rfl (by decide) rfl ((congrFun (hC.oo hL hL.gpl (by decide)) 6).trans hL.n6) ?_
      refine w_iln rfl ?_
      have hq4 : 0 ≤ (H 1) * z3 ∧ (H 1) * z3 ≤ 792 := ye_mulb (by omega) (by omega) (by omega) (by omega)
      refine w_mul ⟨by show (-2147483648 : Int) ≤ (H 1) * z3; omega, by show (H 1) * z3 < (2147483648 : Int); omega⟩ ?_
      refine w_aln rfl ?_
      refine w_aln rfl ?_
      refine w_iln rfl ?_
      have hb5 := ye_br_b (A := A) (B := B) (m := mi.toNat) (k := (A mi.toNat)) hT (by omega)
      refine w_cv (st := [.inl ((H 1) * z3)]) rfl hL.gy hL.hu.2.1 (Nat.le_of_ble_eq_true rfl) (fun kk h => h) (r_X10_bridgeTo (d := d) hL hC hm m0 (by show (A mi.toNat) = 8 ∨ (A mi.toNat) = -1 ∨ (0 ≤ (A mi.toNat) ∧ (A mi.toNat) ≤ 7); omega) ?_)
      refine w_add ⟨by show (-2147483648 : Int) ≤ ((H 1) * z3) + (ye_br H A B mi.toNat (A mi.toNat)); omega, by show ((H 1) * z3) + (ye_br H A B mi.toNat (A mi.toNat)) < (2147483648 : Int); omega⟩ ?_
      refine w_aln rfl ?_
      refine w_aln rfl ?_
      refine w_aln rfl ?_
      refine w_gr hL.gy hL.hu.2.1 (by decide) rfl (hC.rf hL.y4) ?_
      refine w_aln rfl ?_
      refine w_gi hL.gy hL.hu.2.1 (by decide) rfl ((hC.f (j := 222) (by decide) (by decide) rfl).trans hm) ?_
      refine w_iald (v := (B mi.toNat)) hL.glb hL.hu.2.2.2.1 (by show (0 : Int) ≤ mi; omega) (by show mi < ((12 : Nat) : Int); omega) (hC.vB (by show mi.toNat < 12; omega)) ?_
      have hb6 := ye_br_b (A := A) (B := B) (m := mi.toNat) (k := (B mi.toNat)) hT (by omega)
      refine w_cv (st := [.inl (((H 1) * z3) + (ye_br H A B mi.toNat (A mi.toNat)))]) rfl hL.gy hL.hu.2.1 (Nat.le_of_ble_eq_true rfl) (fun kk h => h) (r_X10_bridgeTo (d := d) hL hC hm m0 (by show (B mi.toNat) = 8 ∨ (B mi.toNat) = -1 ∨ (0 ≤ (B mi.toNat) ∧ (B mi.toNat) ≤ 7); omega) ?_)
      refine w_add ⟨by show (-2147483648 : Int) ≤ (((H 1) * z3) + (ye_br H A B mi.toNat (A mi.toNat))) + (ye_br H A B mi.toNat (B mi.toNat)); omega, by show (((H 1) * z3) + (ye_br H A B mi.toNat (A mi.toNat))) + (ye_br H A B mi.toNat (B mi.toNat)) < (2147483648 : Int); omega⟩ ?_
      refine w_is ?_
      show wz _ _ _ _ [some (.inr (.inr (some y))), some (.inr (.inr (some pl))), some (.inl (A mi.toNat)), some (.inl z3), some (.inl ((((H 1) * z3) + (ye_br H A B mi.toNat (A mi.toNat))) + (ye_br H A B mi.toNat (B mi.toNat))))] _ _ _ _ _
      refine w_aln rfl ?_
      refine w_dupr ?_
      refine w_gi hL.gy hL.hu.2.1 (by decide) rfl (hC.f (j := 231) (by decide) (by decide) rfl) ?_
      refine w_il rfl ?_
      refine w_add ⟨by show (-2147483648 : Int) ≤ (g 231) + ((((H 1) * z3) + (ye_br H A B mi.toNat (A mi.toNat))) + (ye_br H A B mi.toNat (B mi.toNat))); omega, by show (g 231) + ((((H 1) * z3) + (ye_br H A B mi.toNat (A mi.toNat))) + (ye_br H A B mi.toNat (B mi.toNat))) < (2147483648 : Int); omega⟩ ?_
      refine w_pi hL.gy hL.hu.2.1 (hL.hu.1 0 (by decide)) rfl (fun q => by cases q) ?_
      have hC7 := hC.pf (j := 231) (v := (g 231) + ((((H 1) * z3) + (ye_br H A B mi.toNat (A mi.toNat))) + (ye_br H A B mi.toNat (B mi.toNat)))) hL (by decide) (by decide) rfl
      refine w_aln rfl ?_
      refine w_dupr ?_
      refine w_gi hL.gy hL.hu.2.1 (by decide) rfl ((hC7.f (j := 224) (by decide) (by decide) rfl).trans ((rv_up_n (by decide)))) ?_
      refine w_il rfl ?_
      refine w_sub ⟨by show (-2147483648 : Int) ≤ (g 224) - ((((H 1) * z3) + (ye_br H A B mi.toNat (A mi.toNat))) + (ye_br H A B mi.toNat (B mi.toNat))); omega, by show (g 224) - ((((H 1) * z3) + (ye_br H A B mi.toNat (A mi.toNat))) + (ye_br H A B mi.toNat (B mi.toNat))) < (2147483648 : Int); omega⟩ ?_
      refine w_pi hL.gy hL.hu.2.1 (hL.hu.1 0 (by decide)) rfl (fun q => by cases q) ?_
      have hC8 := hC7.pf (j := 224) (v := (g 224) - ((((H 1) * z3) + (ye_br H A B mi.toNat (A mi.toNat))) + (ye_br H A B mi.toNat (B mi.toNat)))) hL (by decide) (by decide) rfl
      refine w_aln rfl ?_
      refine w_ic ?_
      refine w_aln rfl ?_
      refine w_gi hL.gy hL.hu.2.1 (by decide) rfl ((hC8.f (j := 225) (by decide) (by decide) rfl).trans ((rv_up_n (by decide)).trans ((rv_up_n (by decide))))) ?_
      refine w_iln rfl ?_
      refine w_sub ⟨by show (-2147483648 : Int) ≤ (g 225) - z3; omega, by show (g 225) - z3 < (2147483648 : Int); omega⟩ ?_
      refine w_max (Nat.le_of_ble_eq_true rfl) ?_
      intro z9 fz9 gz9
      refine w_pi hL.gy hL.hu.2.1 (hL.hu.1 0 (by decide)) rfl (fun q => by cases q) ?_
      have hC10 := hC8.pf (j := 225) (v := z9) hL (by decide) (by decide) rfl
      refine w_aln rfl ?_
      refine w_iln rfl ?_
      refine w_pi hL.gy hL.hu.2.1 (hL.hu.1 0 (by decide)) rfl (fun q => by cases q) ?_
      have hC11 := hC10.pf (j := 223) (v := (A mi.toNat)) hL (by decide) (by decide) rfl
      have ew : ye_wy H g (A mi.toNat) = z3 := by unfold ye_wy ye_pl; (repeat' split) <;> omega
      have ec : ye_co H g A B mi.toNat (A mi.toNat) (B mi.toNat) = (((H 1) * z3) + (ye_br H A B mi.toNat (A mi.toNat))) + (ye_br H A B mi.toNat (B mi.toNat)) := by unfold ye_co; rw [ew]
      refine w_ret (h _ (hC11.cg (ye_10 ?_ ?_ ?_ ?_ ?_ ?_ ?_ ?_ ?_ ?_) (fun _ _ _ _ => rfl)))
      · refine ((rv_up_n (by decide)).trans ((rv_up_n (by decide)).trans ((rv_up_n (by decide)).trans ((rv_up_n (by decide)))))).trans (Eq.trans ?_ (show g 222 = ye_g1 H g A B mi.toNat (A mi.toNat) (B mi.toNat) 0 222 from rfl))
        rfl
      · refine (rv_up_s).trans (Eq.trans ?_ (show A mi.toNat = ye_g1 H g A B mi.toNat (A mi.toNat) (B mi.toNat) 0 223 from rfl))
        rfl
      · refine ((rv_up_n (by decide)).trans ((rv_up_n (by decide)).trans (rv_up_s))).trans (Eq.trans ?_ (show g 224 + 0 - ye_co H g A B mi.toNat (A mi.toNat) (B mi.toNat) = ye_g1 H g A B mi.toNat (A mi.toNat) (B mi.toNat) 0 224 from rfl))
        first | (rw [ec]; done) | (rw [ec]; omega)
      · refine ((rv_up_n (by decide)).trans (rv_up_s)).trans (Eq.trans ?_ (show (if g 225 - ye_wy H g (A mi.toNat) < 0 then 0 else g 225 - ye_wy H g (A mi.toNat)) = ye_g1 H g A B mi.toNat (A mi.toNat) (B mi.toNat) 0 225 from rfl))
        rw [ew]; split <;> omega
      · refine ((rv_up_n (by decide)).trans ((rv_up_n (by decide)).trans ((rv_up_n (by decide)).trans ((rv_up_n (by decide)))))).trans (Eq.trans ?_ (show g 226 = ye_g1 H g A B mi.toNat (A mi.toNat) (B mi.toNat) 0 226 from rfl))
        rfl
      · refine ((rv_up_n (by decide)).trans ((rv_up_n (by decide)).trans ((rv_up_n (by decide)).trans ((rv_up_n (by decide)))))).trans (Eq.trans ?_ (show g 227 = ye_g1 H g A B mi.toNat (A mi.toNat) (B mi.toNat) 0 227 from rfl))
        rfl
      · refine ((rv_up_n (by decide)).trans ((rv_up_n (by decide)).trans ((rv_up_n (by decide)).trans ((rv_up_n (by decide)))))).trans (Eq.trans ?_ (show g 228 = ye_g1 H g A B mi.toNat (A mi.toNat) (B mi.toNat) 0 228 from rfl))
        rfl
      · refine ((rv_up_n (by decide)).trans ((rv_up_n (by decide)).trans ((rv_up_n (by decide)).trans ((rv_up_n (by decide)))))).trans (Eq.trans ?_ (show g 229 = ye_g1 H g A B mi.toNat (A mi.toNat) (B mi.toNat) 0 229 from rfl))
        rfl
      · refine ((rv_up_n (by decide)).trans ((rv_up_n (by decide)).trans ((rv_up_n (by decide)).trans ((rv_up_n (by decide)))))).trans (Eq.trans ?_ (show g 230 = ye_g1 H g A B mi.toNat (A mi.toNat) (B mi.toNat) 0 230 from rfl))
        rfl
      · refine ((rv_up_n (by decide)).trans ((rv_up_n (by decide)).trans ((rv_up_n (by decide)).trans (rv_up_s)))).trans (Eq.trans ?_ (show g 231 + ye_co H g A B mi.toNat (A mi.toNat) (B mi.toNat) = ye_g1 H g A B mi.toNat (A mi.toNat) (B mi.toNat) 0 231 from rfl))
        first | (rw [ec]; done) | (rw [ec]; omega)
      
    · skip
      refine w_aln rfl ?_
      refine w_gi hL.gpl rfl (by decide) rfl ((congrFun (hC.oo hL hL.gpl (by decide)) 4).trans hL.n4) ?_
      refine w_goto ?_
      refine w_iret (fun q => by cases q) ?_
      refine w_sub ⟨by show (-2147483648 : Int) ≤ (A mi.toNat) - (H 0); omega, by show (A mi.toNat) - (H 0) < (2147483648 : Int); omega⟩ ?_
      refine w_abs (Nat.le_of_ble_eq_true rfl) ?_
      intro z12 fz12 gz12
      refine w_isn ?_
      show wz _ _ _ _ [some (.inr (.inr (some y))), some (.inr (.inr (some pl))), some (.inl (A mi.toNat)), some (.inl z12), none] _ _ _ _ _
      refine w_aln rfl ?_
      refine w_gi hL.gpl rfl (by decide) rfl ((congrFun (hC.oo hL hL.gpl (by decide)) 6).trans hL.n6) ?_
      refine w_iln rfl ?_
      have hq13 : 0 ≤ (H 1) * z12 ∧ (H 1) * z12 ≤ 792 := ye_mulb (by omega) (by omega) (by omega) (by omega)
      refine w_mul ⟨by show (-2147483648 : Int) ≤ (H 1) * z12; omega, by show (H 1) * z12 < (2147483648 : Int); omega⟩ ?_
      refine w_aln rfl ?_
      refine w_aln rfl ?_
      refine w_iln rfl ?_
      have hb14 := ye_br_b (A := A) (B := B) (m := mi.toNat) (k := (A mi.toNat)) hT (by omega)
      refine w_cv (st := [.inl ((H 1) * z12)]) rfl hL.gy hL.hu.2.1 (Nat.le_of_ble_eq_true rfl) (fun kk h => h) (r_X10_bridgeTo (d := d) hL hC hm m0 (by show (A mi.toNat) = 8 ∨ (A mi.toNat) = -1 ∨ (0 ≤ (A mi.toNat) ∧ (A mi.toNat) ≤ 7); omega) ?_)
      refine w_add ⟨by show (-2147483648 : Int) ≤ ((H 1) * z12) + (ye_br H A B mi.toNat (A mi.toNat)); omega, by show ((H 1) * z12) + (ye_br H A B mi.toNat (A mi.toNat)) < (2147483648 : Int); omega⟩ ?_
      refine w_aln rfl ?_
      refine w_aln rfl ?_
      refine w_aln rfl ?_
      refine w_gr hL.gy hL.hu.2.1 (by decide) rfl (hC.rf hL.y4) ?_
      refine w_aln rfl ?_
      refine w_gi hL.gy hL.hu.2.1 (by decide) rfl ((hC.f (j := 222) (by decide) (by decide) rfl).trans hm) ?_
      refine w_iald (v := (B mi.toNat)) hL.glb hL.hu.2.2.2.1 (by show (0 : Int) ≤ mi; omega) (by show mi < ((12 : Nat) : Int); omega) (hC.vB (by show mi.toNat < 12; omega)) ?_
      have hb15 := ye_br_b (A := A) (B := B) (m := mi.toNat) (k := (B mi.toNat)) hT (by omega)
      refine w_cv (st := [.inl (((H 1) * z12) + (ye_br H A B mi.toNat (A mi.toNat)))]) rfl hL.gy hL.hu.2.1 (Nat.le_of_ble_eq_true rfl) (fun kk h => h) (r_X10_bridgeTo (d := d) hL hC hm m0 (by show (B mi.toNat) = 8 ∨ (B mi.toNat) = -1 ∨ (0 ≤ (B mi.toNat) ∧ (B mi.toNat) ≤ 7); omega) ?_)
      refine w_add ⟨by show (-2147483648 : Int) ≤ (((H 1) * z12) + (ye_br H A B mi.toNat (A mi.toNat))) + (ye_br H A B mi.toNat (B mi.toNat)); omega, by show (((H 1) * z12) + (ye_br H A B mi.toNat (A mi.toNat))) + (ye_br H A B mi.toNat (B mi.toNat)) < (2147483648 : Int); omega⟩ ?_
      refine w_is ?_
      show wz _ _ _ _ [some (.inr (.inr (some y))), some (.inr (.inr (some pl))), some (.inl (A mi.toNat)), some (.inl z12), some (.inl ((((H 1) * z12) + (ye_br H A B mi.toNat (A mi.toNat))) + (ye_br H A B mi.toNat (B mi.toNat))))] _ _ _ _ _
      refine w_aln rfl ?_
      refine w_dupr ?_
      refine w_gi hL.gy hL.hu.2.1 (by decide) rfl (hC.f (j := 231) (by decide) (by decide) rfl) ?_
      refine w_il rfl ?_
      refine w_add ⟨by show (-2147483648 : Int) ≤ (g 231) + ((((H 1) * z12) + (ye_br H A B mi.toNat (A mi.toNat))) + (ye_br H A B mi.toNat (B mi.toNat))); omega, by show (g 231) + ((((H 1) * z12) + (ye_br H A B mi.toNat (A mi.toNat))) + (ye_br H A B mi.toNat (B mi.toNat))) < (2147483648 : Int); omega⟩ ?_
      refine w_pi hL.gy hL.hu.2.1 (hL.hu.1 0 (by decide)) rfl (fun q => by cases q) ?_
      have hC16 := hC.pf (j := 231) (v := (g 231) + ((((H 1) * z12) + (ye_br H A B mi.toNat (A mi.toNat))) + (ye_br H A B mi.toNat (B mi.toNat)))) hL (by decide) (by decide) rfl
      refine w_aln rfl ?_
      refine w_dupr ?_
      refine w_gi hL.gy hL.hu.2.1 (by decide) rfl ((hC16.f (j := 224) (by decide) (by decide) rfl).trans ((rv_up_n (by decide)))) ?_
      refine w_il rfl ?_
      refine w_sub ⟨by show (-2147483648 : Int) ≤ (g 224) - ((((H 1) * z12) + (ye_br H A B mi.toNat (A mi.toNat))) + (ye_br H A B mi.toNat (B mi.toNat))); omega, by show (g 224) - ((((H 1) * z12) + (ye_br H A B mi.toNat (A mi.toNat))) + (ye_br H A B mi.toNat (B mi.toNat))) < (2147483648 : Int); omega⟩ ?_
      refine w_pi hL.gy hL.hu.2.1 (hL.hu.1 0 (by decide)) rfl (fun q => by cases q) ?_
      have hC17 := hC16.pf (j := 224) (v := (g 224) - ((((H 1) * z12) + (ye_br H A B mi.toNat (A mi.toNat))) + (ye_br H A B mi.toNat (B mi.toNat)))) hL (by decide) (by decide) rfl
      refine w_aln rfl ?_
      refine w_ic ?_
      refine w_aln rfl ?_
      refine w_gi hL.gy hL.hu.2.1 (by decide) rfl ((hC17.f (j := 225) (by decide) (by decide) rfl).trans ((rv_up_n (by decide)).trans ((rv_up_n (by decide))))) ?_
      refine w_iln rfl ?_
      refine w_sub ⟨by show (-2147483648 : Int) ≤ (g 225) - z12; omega, by show (g 225) - z12 < (2147483648 : Int); omega⟩ ?_
      refine w_max (Nat.le_of_ble_eq_true rfl) ?_
      intro z18 fz18 gz18
      refine w_pi hL.gy hL.hu.2.1 (hL.hu.1 0 (by decide)) rfl (fun q => by cases q) ?_
      have hC19 := hC17.pf (j := 225) (v := z18) hL (by decide) (by decide) rfl
      refine w_aln rfl ?_
      refine w_iln rfl ?_
      refine w_pi hL.gy hL.hu.2.1 (hL.hu.1 0 (by decide)) rfl (fun q => by cases q) ?_
      have hC20 := hC19.pf (j := 223) (v := (A mi.toNat)) hL (by decide) (by decide) rfl
      have ew : ye_wy H g (A mi.toNat) = z12 := by unfold ye_wy ye_pl; (repeat' split) <;> omega
      have ec : ye_co H g A B mi.toNat (A mi.toNat) (B mi.toNat) = (((H 1) * z12) + (ye_br H A B mi.toNat (A mi.toNat))) + (ye_br H A B mi.toNat (B mi.toNat)) := by unfold ye_co; rw [ew]
      refine w_ret (h _ (hC20.cg (ye_10 ?_ ?_ ?_ ?_ ?_ ?_ ?_ ?_ ?_ ?_) (fun _ _ _ _ => rfl)))
      · refine ((rv_up_n (by decide)).trans ((rv_up_n (by decide)).trans ((rv_up_n (by decide)).trans ((rv_up_n (by decide)))))).trans (Eq.trans ?_ (show g 222 = ye_g1 H g A B mi.toNat (A mi.toNat) (B mi.toNat) 0 222 from rfl))
        rfl
      · refine (rv_up_s).trans (Eq.trans ?_ (show A mi.toNat = ye_g1 H g A B mi.toNat (A mi.toNat) (B mi.toNat) 0 223 from rfl))
        rfl
      · refine ((rv_up_n (by decide)).trans ((rv_up_n (by decide)).trans (rv_up_s))).trans (Eq.trans ?_ (show g 224 + 0 - ye_co H g A B mi.toNat (A mi.toNat) (B mi.toNat) = ye_g1 H g A B mi.toNat (A mi.toNat) (B mi.toNat) 0 224 from rfl))
        first | (rw [ec]; done) | (rw [ec]; omega)
      · refine ((rv_up_n (by decide)).trans (rv_up_s)).trans (Eq.trans ?_ (show (if g 225 - ye_wy H g (A mi.toNat) < 0 then 0 else g 225 - ye_wy H g (A mi.toNat)) = ye_g1 H g A B mi.toNat (A mi.toNat) (B mi.toNat) 0 225 from rfl))
        rw [ew]; split <;> omega
      · refine ((rv_up_n (by decide)).trans ((rv_up_n (by decide)).trans ((rv_up_n (by decide)).trans ((rv_up_n (by decide)))))).trans (Eq.trans ?_ (show g 226 = ye_g1 H g A B mi.toNat (A mi.toNat) (B mi.toNat) 0 226 from rfl))
        rfl
      · refine ((rv_up_n (by decide)).trans ((rv_up_n (by decide)).trans ((rv_up_n (by decide)).trans ((rv_up_n (by decide)))))).trans (Eq.trans ?_ (show g 227 = ye_g1 H g A B mi.toNat (A mi.toNat) (B mi.toNat) 0 227 from rfl))
        rfl
      · refine ((rv_up_n (by decide)).trans ((rv_up_n (by decide)).trans ((rv_up_n (by decide)).trans ((rv_up_n (by decide)))))).trans (Eq.trans ?_ (show g 228 = ye_g1 H g A B mi.toNat (A mi.toNat) (B mi.toNat) 0 228 from rfl))
        rfl
      · refine ((rv_up_n (by decide)).trans ((rv_up_n (by decide)).trans ((rv_up_n (by decide)).trans ((rv_up_n (by decide)))))).trans (Eq.trans ?_ (show g 229 = ye_g1 H g A B mi.toNat (A mi.toNat) (B mi.toNat) 0 229 from rfl))
        rfl
      · refine ((rv_up_n (by decide)).trans ((rv_up_n (by decide)).trans ((rv_up_n (by decide)).trans ((rv_up_n (by decide)))))).trans (Eq.trans ?_ (show g 230 = ye_g1 H g A B mi.toNat (A mi.toNat) (B mi.toNat) 0 230 from rfl))
        rfl
      · refine ((rv_up_n (by decide)).trans ((rv_up_n (by decide)).trans ((rv_up_n (by decide)).trans (rv_up_s)))).trans (Eq.trans ?_ (show g 231 + ye_co H g A B mi.toNat (A mi.toNat) (B mi.toNat) = ye_g1 H g A B mi.toNat (A mi.toNat) (B mi.toNat) 0 231 from rfl))
        first | (rw [ec]; done) | (rw [ec]; omega)
      
  · skip
    refine w_aln rfl ?_
    refine w_gi hL.gpl rfl (by decide) rfl ((congrFun (hC.oo hL hL.gpl (by decide)) 4).trans hL.n4) ?_
    refine w_goto ?_
    refine w_iret (fun q => by cases q) ?_
    refine w_aln rfl ?_
    refine w_aln rfl ?_
    refine w_gi hL.gy hL.hu.2.1 (by decide) rfl (hC.f (j := 223) (by decide) (by decide) rfl) ?_
    refine w_cv (st := [.inl (H 0)]) rfl hL.gpl rfl (Nat.le_of_ble_eq_true rfl) (fun kk h => h) ⟨Nat.le_of_ble_eq_true rfl, ?_⟩
    show wz (d) mt_X3_placeOf.2.2.2.2.1 _ mt_X3_placeOf.2.2.2.2.1 [some (.inr (.inr (some pl))), some (.inl (g 223))] [] _ _ _ _
    refine w_iln rfl ?_
    refine w_bp ?_
    refine w_cmne (fun c21 => ?_) (fun c21 => ?_)
    · skip
      refine w_iln rfl ?_
      refine w_iret (fun q => by cases q) ?_
      refine w_sub ⟨by show (-2147483648 : Int) ≤ (H 0) - (g 223); omega, by show (H 0) - (g 223) < (2147483648 : Int); omega⟩ ?_
      refine w_abs (Nat.le_of_ble_eq_true rfl) ?_
      intro z22 fz22 gz22
      refine w_isn ?_
      show wz _ _ _ _ [some (.inr (.inr (some y))), some (.inr (.inr (some pl))), some (.inl (A mi.toNat)), some (.inl z22), none] _ _ _ _ _
      refine w_aln rfl ?_
      refine w_gi hL.gpl rfl (by decide) rfl ((congrFun (hC.oo hL hL.gpl (by decide)) 6).trans hL.n6) ?_
      refine w_iln rfl ?_
      have hq23 : 0 ≤ (H 1) * z22 ∧ (H 1) * z22 ≤ 792 := ye_mulb (by omega) (by omega) (by omega) (by omega)
      refine w_mul ⟨by show (-2147483648 : Int) ≤ (H 1) * z22; omega, by show (H 1) * z22 < (2147483648 : Int); omega⟩ ?_
      refine w_aln rfl ?_
      refine w_aln rfl ?_
      refine w_iln rfl ?_
      have hb24 := ye_br_b (A := A) (B := B) (m := mi.toNat) (k := (A mi.toNat)) hT (by omega)
      refine w_cv (st := [.inl ((H 1) * z22)]) rfl hL.gy hL.hu.2.1 (Nat.le_of_ble_eq_true rfl) (fun kk h => h) (r_X10_bridgeTo (d := d) hL hC hm m0 (by show (A mi.toNat) = 8 ∨ (A mi.toNat) = -1 ∨ (0 ≤ (A mi.toNat) ∧ (A mi.toNat) ≤ 7); omega) ?_)
      refine w_add ⟨by show (-2147483648 : Int) ≤ ((H 1) * z22) + (ye_br H A B mi.toNat (A mi.toNat)); omega, by show ((H 1) * z22) + (ye_br H A B mi.toNat (A mi.toNat)) < (2147483648 : Int); omega⟩ ?_
      refine w_aln rfl ?_
      refine w_aln rfl ?_
      refine w_aln rfl ?_
      refine w_gr hL.gy hL.hu.2.1 (by decide) rfl (hC.rf hL.y4) ?_
      refine w_aln rfl ?_
      refine w_gi hL.gy hL.hu.2.1 (by decide) rfl ((hC.f (j := 222) (by decide) (by decide) rfl).trans hm) ?_
      refine w_iald (v := (B mi.toNat)) hL.glb hL.hu.2.2.2.1 (by show (0 : Int) ≤ mi; omega) (by show mi < ((12 : Nat) : Int); omega) (hC.vB (by show mi.toNat < 12; omega)) ?_
      have hb25 := ye_br_b (A := A) (B := B) (m := mi.toNat) (k := (B mi.toNat)) hT (by omega)
      refine w_cv (st := [.inl (((H 1) * z22) + (ye_br H A B mi.toNat (A mi.toNat)))]) rfl hL.gy hL.hu.2.1 (Nat.le_of_ble_eq_true rfl) (fun kk h => h) (r_X10_bridgeTo (d := d) hL hC hm m0 (by show (B mi.toNat) = 8 ∨ (B mi.toNat) = -1 ∨ (0 ≤ (B mi.toNat) ∧ (B mi.toNat) ≤ 7); omega) ?_)
      refine w_add ⟨by show (-2147483648 : Int) ≤ (((H 1) * z22) + (ye_br H A B mi.toNat (A mi.toNat))) + (ye_br H A B mi.toNat (B mi.toNat)); omega, by show (((H 1) * z22) + (ye_br H A B mi.toNat (A mi.toNat))) + (ye_br H A B mi.toNat (B mi.toNat)) < (2147483648 : Int); omega⟩ ?_
      refine w_is ?_
      show wz _ _ _ _ [some (.inr (.inr (some y))), some (.inr (.inr (some pl))), some (.inl (A mi.toNat)), some (.inl z22), some (.inl ((((H 1) * z22) + (ye_br H A B mi.toNat (A mi.toNat))) + (ye_br H A B mi.toNat (B mi.toNat))))] _ _ _ _ _
      refine w_aln rfl ?_
      refine w_dupr ?_
      refine w_gi hL.gy hL.hu.2.1 (by decide) rfl (hC.f (j := 231) (by decide) (by decide) rfl) ?_
      refine w_il rfl ?_
      refine w_add ⟨by show (-2147483648 : Int) ≤ (g 231) + ((((H 1) * z22) + (ye_br H A B mi.toNat (A mi.toNat))) + (ye_br H A B mi.toNat (B mi.toNat))); omega, by show (g 231) + ((((H 1) * z22) + (ye_br H A B mi.toNat (A mi.toNat))) + (ye_br H A B mi.toNat (B mi.toNat))) < (2147483648 : Int); omega⟩ ?_
      refine w_pi hL.gy hL.hu.2.1 (hL.hu.1 0 (by decide)) rfl (fun q => by cases q) ?_
      have hC26 := hC.pf (j := 231) (v := (g 231) + ((((H 1) * z22) + (ye_br H A B mi.toNat (A mi.toNat))) + (ye_br H A B mi.toNat (B mi.toNat)))) hL (by decide) (by decide) rfl
      refine w_aln rfl ?_
      refine w_dupr ?_
      refine w_gi hL.gy hL.hu.2.1 (by decide) rfl ((hC26.f (j := 224) (by decide) (by decide) rfl).trans ((rv_up_n (by decide)))) ?_
      refine w_il rfl ?_
      refine w_sub ⟨by show (-2147483648 : Int) ≤ (g 224) - ((((H 1) * z22) + (ye_br H A B mi.toNat (A mi.toNat))) + (ye_br H A B mi.toNat (B mi.toNat))); omega, by show (g 224) - ((((H 1) * z22) + (ye_br H A B mi.toNat (A mi.toNat))) + (ye_br H A B mi.toNat (B mi.toNat))) < (2147483648 : Int); omega⟩ ?_
      refine w_pi hL.gy hL.hu.2.1 (hL.hu.1 0 (by decide)) rfl (fun q => by cases q) ?_
      have hC27 := hC26.pf (j := 224) (v := (g 224) - ((((H 1) * z22) + (ye_br H A B mi.toNat (A mi.toNat))) + (ye_br H A B mi.toNat (B mi.toNat)))) hL (by decide) (by decide) rfl
      refine w_aln rfl ?_
      refine w_ic ?_
      refine w_aln rfl ?_
      refine w_gi hL.gy hL.hu.2.1 (by decide) rfl ((hC27.f (j := 225) (by decide) (by decide) rfl).trans ((rv_up_n (by decide)).trans ((rv_up_n (by decide))))) ?_
      refine w_iln rfl ?_
      refine w_sub ⟨by show (-2147483648 : Int) ≤ (g 225) - z22; omega, by show (g 225) - z22 < (2147483648 : Int); omega⟩ ?_
      refine w_max (Nat.le_of_ble_eq_true rfl) ?_
      intro z28 fz28 gz28
      refine w_pi hL.gy hL.hu.2.1 (hL.hu.1 0 (by decide)) rfl (fun q => by cases q) ?_
      have hC29 := hC27.pf (j := 225) (v := z28) hL (by decide) (by decide) rfl
      refine w_aln rfl ?_
      refine w_iln rfl ?_
      refine w_pi hL.gy hL.hu.2.1 (hL.hu.1 0 (by decide)) rfl (fun q => by cases q) ?_
      have hC30 := hC29.pf (j := 223) (v := (A mi.toNat)) hL (by decide) (by decide) rfl
      have ew : ye_wy H g (A mi.toNat) = z22 := by unfold ye_wy ye_pl; (repeat' split) <;> omega
      have ec : ye_co H g A B mi.toNat (A mi.toNat) (B mi.toNat) = (((H 1) * z22) + (ye_br H A B mi.toNat (A mi.toNat))) + (ye_br H A B mi.toNat (B mi.toNat)) := by unfold ye_co; rw [ew]
      refine w_ret (h _ (hC30.cg (ye_10 ?_ ?_ ?_ ?_ ?_ ?_ ?_ ?_ ?_ ?_) (fun _ _ _ _ => rfl)))
      · refine ((rv_up_n (by decide)).trans ((rv_up_n (by decide)).trans ((rv_up_n (by decide)).trans ((rv_up_n (by decide)))))).trans (Eq.trans ?_ (show g 222 = ye_g1 H g A B mi.toNat (A mi.toNat) (B mi.toNat) 0 222 from rfl))
        rfl
      · refine (rv_up_s).trans (Eq.trans ?_ (show A mi.toNat = ye_g1 H g A B mi.toNat (A mi.toNat) (B mi.toNat) 0 223 from rfl))
        rfl
      · refine ((rv_up_n (by decide)).trans ((rv_up_n (by decide)).trans (rv_up_s))).trans (Eq.trans ?_ (show g 224 + 0 - ye_co H g A B mi.toNat (A mi.toNat) (B mi.toNat) = ye_g1 H g A B mi.toNat (A mi.toNat) (B mi.toNat) 0 224 from rfl))
        first | (rw [ec]; done) | (rw [ec]; omega)
      · refine ((rv_up_n (by decide)).trans (rv_up_s)).trans (Eq.trans ?_ (show (if g 225 - ye_wy H g (A mi.toNat) < 0 then 0 else g 225 - ye_wy H g (A mi.toNat)) = ye_g1 H g A B mi.toNat (A mi.toNat) (B mi.toNat) 0 225 from rfl))
        rw [ew]; split <;> omega
      · refine ((rv_up_n (by decide)).trans ((rv_up_n (by decide)).trans ((rv_up_n (by decide)).trans ((rv_up_n (by decide)))))).trans (Eq.trans ?_ (show g 226 = ye_g1 H g A B mi.toNat (A mi.toNat) (B mi.toNat) 0 226 from rfl))
        rfl
      · refine ((rv_up_n (by decide)).trans ((rv_up_n (by decide)).trans ((rv_up_n (by decide)).trans ((rv_up_n (by decide)))))).trans (Eq.trans ?_ (show g 227 = ye_g1 H g A B mi.toNat (A mi.toNat) (B mi.toNat) 0 227 from rfl))
        rfl
      · refine ((rv_up_n (by decide)).trans ((rv_up_n (by decide)).trans ((rv_up_n (by decide)).trans ((rv_up_n (by decide)))))).trans (Eq.trans ?_ (show g 228 = ye_g1 H g A B mi.toNat (A mi.toNat) (B mi.toNat) 0 228 from rfl))
        rfl
      · refine ((rv_up_n (by decide)).trans ((rv_up_n (by decide)).trans ((rv_up_n (by decide)).trans ((rv_up_n (by decide)))))).trans (Eq.trans ?_ (show g 229 = ye_g1 H g A B mi.toNat (A mi.toNat) (B mi.toNat) 0 229 from rfl))
        rfl
      · refine ((rv_up_n (by decide)).trans ((rv_up_n (by decide)).trans ((rv_up_n (by decide)).trans ((rv_up_n (by decide)))))).trans (Eq.trans ?_ (show g 230 = ye_g1 H g A B mi.toNat (A mi.toNat) (B mi.toNat) 0 230 from rfl))
        rfl
      · refine ((rv_up_n (by decide)).trans ((rv_up_n (by decide)).trans ((rv_up_n (by decide)).trans (rv_up_s)))).trans (Eq.trans ?_ (show g 231 + ye_co H g A B mi.toNat (A mi.toNat) (B mi.toNat) = ye_g1 H g A B mi.toNat (A mi.toNat) (B mi.toNat) 0 231 from rfl))
        first | (rw [ec]; done) | (rw [ec]; omega)
      
    · skip
      refine w_aln rfl ?_
      refine w_gi hL.gpl rfl (by decide) rfl ((congrFun (hC.oo hL hL.gpl (by decide)) 4).trans hL.n4) ?_
      refine w_goto ?_
      refine w_iret (fun q => by cases q) ?_
      refine w_sub ⟨by show (-2147483648 : Int) ≤ (H 0) - (H 0); omega, by show (H 0) - (H 0) < (2147483648 : Int); omega⟩ ?_
      refine w_abs (Nat.le_of_ble_eq_true rfl) ?_
      intro z31 fz31 gz31
      refine w_isn ?_
      show wz _ _ _ _ [some (.inr (.inr (some y))), some (.inr (.inr (some pl))), some (.inl (A mi.toNat)), some (.inl z31), none] _ _ _ _ _
      refine w_aln rfl ?_
      refine w_gi hL.gpl rfl (by decide) rfl ((congrFun (hC.oo hL hL.gpl (by decide)) 6).trans hL.n6) ?_
      refine w_iln rfl ?_
      have hq32 : 0 ≤ (H 1) * z31 ∧ (H 1) * z31 ≤ 792 := ye_mulb (by omega) (by omega) (by omega) (by omega)
      refine w_mul ⟨by show (-2147483648 : Int) ≤ (H 1) * z31; omega, by show (H 1) * z31 < (2147483648 : Int); omega⟩ ?_
      refine w_aln rfl ?_
      refine w_aln rfl ?_
      refine w_iln rfl ?_
      have hb33 := ye_br_b (A := A) (B := B) (m := mi.toNat) (k := (A mi.toNat)) hT (by omega)
      refine w_cv (st := [.inl ((H 1) * z31)]) rfl hL.gy hL.hu.2.1 (Nat.le_of_ble_eq_true rfl) (fun kk h => h) (r_X10_bridgeTo (d := d) hL hC hm m0 (by show (A mi.toNat) = 8 ∨ (A mi.toNat) = -1 ∨ (0 ≤ (A mi.toNat) ∧ (A mi.toNat) ≤ 7); omega) ?_)
      refine w_add ⟨by show (-2147483648 : Int) ≤ ((H 1) * z31) + (ye_br H A B mi.toNat (A mi.toNat)); omega, by show ((H 1) * z31) + (ye_br H A B mi.toNat (A mi.toNat)) < (2147483648 : Int); omega⟩ ?_
      refine w_aln rfl ?_
      refine w_aln rfl ?_
      refine w_aln rfl ?_
      refine w_gr hL.gy hL.hu.2.1 (by decide) rfl (hC.rf hL.y4) ?_
      refine w_aln rfl ?_
      refine w_gi hL.gy hL.hu.2.1 (by decide) rfl ((hC.f (j := 222) (by decide) (by decide) rfl).trans hm) ?_
      refine w_iald (v := (B mi.toNat)) hL.glb hL.hu.2.2.2.1 (by show (0 : Int) ≤ mi; omega) (by show mi < ((12 : Nat) : Int); omega) (hC.vB (by show mi.toNat < 12; omega)) ?_
      have hb34 := ye_br_b (A := A) (B := B) (m := mi.toNat) (k := (B mi.toNat)) hT (by omega)
      refine w_cv (st := [.inl (((H 1) * z31) + (ye_br H A B mi.toNat (A mi.toNat)))]) rfl hL.gy hL.hu.2.1 (Nat.le_of_ble_eq_true rfl) (fun kk h => h) (r_X10_bridgeTo (d := d) hL hC hm m0 (by show (B mi.toNat) = 8 ∨ (B mi.toNat) = -1 ∨ (0 ≤ (B mi.toNat) ∧ (B mi.toNat) ≤ 7); omega) ?_)
      refine w_add ⟨by show (-2147483648 : Int) ≤ (((H 1) * z31) + (ye_br H A B mi.toNat (A mi.toNat))) + (ye_br H A B mi.toNat (B mi.toNat)); omega, by show (((H 1) * z31) + (ye_br H A B mi.toNat (A mi.toNat))) + (ye_br H A B mi.toNat (B mi.toNat)) < (2147483648 : Int); omega⟩ ?_
      refine w_is ?_
      show wz _ _ _ _ [some (.inr (.inr (some y))), some (.inr (.inr (some pl))), some (.inl (A mi.toNat)), some (.inl z31), some (.inl ((((H 1) * z31) + (ye_br H A B mi.toNat (A mi.toNat))) + (ye_br H A B mi.toNat (B mi.toNat))))] _ _ _ _ _
      refine w_aln rfl ?_
      refine w_dupr ?_
      refine w_gi hL.gy hL.hu.2.1 (by decide) rfl (hC.f (j := 231) (by decide) (by decide) rfl) ?_
      refine w_il rfl ?_
      refine w_add ⟨by show (-2147483648 : Int) ≤ (g 231) + ((((H 1) * z31) + (ye_br H A B mi.toNat (A mi.toNat))) + (ye_br H A B mi.toNat (B mi.toNat))); omega, by show (g 231) + ((((H 1) * z31) + (ye_br H A B mi.toNat (A mi.toNat))) + (ye_br H A B mi.toNat (B mi.toNat))) < (2147483648 : Int); omega⟩ ?_
      refine w_pi hL.gy hL.hu.2.1 (hL.hu.1 0 (by decide)) rfl (fun q => by cases q) ?_
      have hC35 := hC.pf (j := 231) (v := (g 231) + ((((H 1) * z31) + (ye_br H A B mi.toNat (A mi.toNat))) + (ye_br H A B mi.toNat (B mi.toNat)))) hL (by decide) (by decide) rfl
      refine w_aln rfl ?_
      refine w_dupr ?_
      refine w_gi hL.gy hL.hu.2.1 (by decide) rfl ((hC35.f (j := 224) (by decide) (by decide) rfl).trans ((rv_up_n (by decide)))) ?_
      refine w_il rfl ?_
      refine w_sub ⟨by show (-2147483648 : Int) ≤ (g 224) - ((((H 1) * z31) + (ye_br H A B mi.toNat (A mi.toNat))) + (ye_br H A B mi.toNat (B mi.toNat))); omega, by show (g 224) - ((((H 1) * z31) + (ye_br H A B mi.toNat (A mi.toNat))) + (ye_br H A B mi.toNat (B mi.toNat))) < (2147483648 : Int); omega⟩ ?_
      refine w_pi hL.gy hL.hu.2.1 (hL.hu.1 0 (by decide)) rfl (fun q => by cases q) ?_
      have hC36 := hC35.pf (j := 224) (v := (g 224) - ((((H 1) * z31) + (ye_br H A B mi.toNat (A mi.toNat))) + (ye_br H A B mi.toNat (B mi.toNat)))) hL (by decide) (by decide) rfl
      refine w_aln rfl ?_
      refine w_ic ?_
      refine w_aln rfl ?_
      refine w_gi hL.gy hL.hu.2.1 (by decide) rfl ((hC36.f (j := 225) (by decide) (by decide) rfl).trans ((rv_up_n (by decide)).trans ((rv_up_n (by decide))))) ?_
      refine w_iln rfl ?_
      refine w_sub ⟨by show (-2147483648 : Int) ≤ (g 225) - z31; omega, by show (g 225) - z31 < (2147483648 : Int); omega⟩ ?_
      refine w_max (Nat.le_of_ble_eq_true rfl) ?_
      intro z37 fz37 gz37
      refine w_pi hL.gy hL.hu.2.1 (hL.hu.1 0 (by decide)) rfl (fun q => by cases q) ?_
      have hC38 := hC36.pf (j := 225) (v := z37) hL (by decide) (by decide) rfl
      refine w_aln rfl ?_
      refine w_iln rfl ?_
      refine w_pi hL.gy hL.hu.2.1 (hL.hu.1 0 (by decide)) rfl (fun q => by cases q) ?_
      have hC39 := hC38.pf (j := 223) (v := (A mi.toNat)) hL (by decide) (by decide) rfl
      have ew : ye_wy H g (A mi.toNat) = z31 := by unfold ye_wy ye_pl; (repeat' split) <;> omega
      have ec : ye_co H g A B mi.toNat (A mi.toNat) (B mi.toNat) = (((H 1) * z31) + (ye_br H A B mi.toNat (A mi.toNat))) + (ye_br H A B mi.toNat (B mi.toNat)) := by unfold ye_co; rw [ew]
      refine w_ret (h _ (hC39.cg (ye_10 ?_ ?_ ?_ ?_ ?_ ?_ ?_ ?_ ?_ ?_) (fun _ _ _ _ => rfl)))
      · refine ((rv_up_n (by decide)).trans ((rv_up_n (by decide)).trans ((rv_up_n (by decide)).trans ((rv_up_n (by decide)))))).trans (Eq.trans ?_ (show g 222 = ye_g1 H g A B mi.toNat (A mi.toNat) (B mi.toNat) 0 222 from rfl))
        rfl
      · refine (rv_up_s).trans (Eq.trans ?_ (show A mi.toNat = ye_g1 H g A B mi.toNat (A mi.toNat) (B mi.toNat) 0 223 from rfl))
        rfl
      · refine ((rv_up_n (by decide)).trans ((rv_up_n (by decide)).trans (rv_up_s))).trans (Eq.trans ?_ (show g 224 + 0 - ye_co H g A B mi.toNat (A mi.toNat) (B mi.toNat) = ye_g1 H g A B mi.toNat (A mi.toNat) (B mi.toNat) 0 224 from rfl))
        first | (rw [ec]; done) | (rw [ec]; omega)
      · refine ((rv_up_n (by decide)).trans (rv_up_s)).trans (Eq.trans ?_ (show (if g 225 - ye_wy H g (A mi.toNat) < 0 then 0 else g 225 - ye_wy H g (A mi.toNat)) = ye_g1 H g A B mi.toNat (A mi.toNat) (B mi.toNat) 0 225 from rfl))
        rw [ew]; split <;> omega
      · refine ((rv_up_n (by decide)).trans ((rv_up_n (by decide)).trans ((rv_up_n (by decide)).trans ((rv_up_n (by decide)))))).trans (Eq.trans ?_ (show g 226 = ye_g1 H g A B mi.toNat (A mi.toNat) (B mi.toNat) 0 226 from rfl))
        rfl
      · refine ((rv_up_n (by decide)).trans ((rv_up_n (by decide)).trans ((rv_up_n (by decide)).trans ((rv_up_n (by decide)))))).trans (Eq.trans ?_ (show g 227 = ye_g1 H g A B mi.toNat (A mi.toNat) (B mi.toNat) 0 227 from rfl))
        rfl
      · refine ((rv_up_n (by decide)).trans ((rv_up_n (by decide)).trans ((rv_up_n (by decide)).trans ((rv_up_n (by decide)))))).trans (Eq.trans ?_ (show g 228 = ye_g1 H g A B mi.toNat (A mi.toNat) (B mi.toNat) 0 228 from rfl))
        rfl
      · refine ((rv_up_n (by decide)).trans ((rv_up_n (by decide)).trans ((rv_up_n (by decide)).trans ((rv_up_n (by decide)))))).trans (Eq.trans ?_ (show g 229 = ye_g1 H g A B mi.toNat (A mi.toNat) (B mi.toNat) 0 229 from rfl))
        rfl
      · refine ((rv_up_n (by decide)).trans ((rv_up_n (by decide)).trans ((rv_up_n (by decide)).trans ((rv_up_n (by decide)))))).trans (Eq.trans ?_ (show g 230 = ye_g1 H g A B mi.toNat (A mi.toNat) (B mi.toNat) 0 230 from rfl))
        rfl
      · refine ((rv_up_n (by decide)).trans ((rv_up_n (by decide)).trans ((rv_up_n (by decide)).trans (rv_up_s)))).trans (Eq.trans ?_ (show g 231 + ye_co H g A B mi.toNat (A mi.toNat) (B mi.toNat) = ye_g1 H g A B mi.toNat (A mi.toNat) (B mi.toNat) 0 231 from rfl))
        first | (rw [ec]; done) | (rw [ec]; omega)
      
theorem ye_in_c {H : Nat → Int} {R R' : Nat → Nat → Int} {t z : Int} (h : R t.toNat 0 = R' t.toNat 0) : ye_in H R t z = ye_in H R' t z := by unfold ye_in; rw [h]
theorem ye_dkw {H : Nat → Int} {t : Nat} {r : Nat → Int} : ye_dk H t r 0 = r 0 - ye_u H t r - ye_sp H t r - ye_fl H t r ∧ ye_dk H t r 1 = r 1 ∧ ye_dk H t r 2 = ye_d H t r ∧ ye_dk H t r 3 = (if H 3 ≤ ye_d H t r then 1 else r 3) ∧ ye_dk H t r 4 = r 4 ∧ ye_dk H t r 5 = r 5 ∧ ye_dk H t r 6 = r 6 ∧ ye_dk H t r 7 = (if ye_u H t r < H (6 + 9 * t) then r 7 + 1 else r 7) ∧ ye_dk H t r 8 = (if r 8 < ye_gr H t r then ye_gr H t r else r 8) ∧ ye_dk H t r 9 = r 9 ∧ ye_dk H t r 10 = ye_gr H t r := ⟨rfl, rfl, rfl, rfl, rfl, rfl, rfl, rfl, rfl, rfl, rfl⟩
theorem r_X10_pourTo {G : mj_G} {M M0 : mj_M} {u : Nat → Nat} {y la lb lc oa pl ta ba wa dl fa sa ca : Nat} {yr tr br : Nat → Nat} {H : Nat → Int} {g A B C : Nat → Int} {R : Nat → Nat → Int} {Q : mj_P} {d : Nat} (hL : yc_L G M0 u y la lb lc oa yr pl ta ba wa tr br dl fa sa ca H) {i z : Int} (hC : yc_S y la lb lc yr M0 g A B C R M) (hi : 0 ≤ i ∧ i ≤ 7) (hz : 0 ≤ z ∧ z ≤ 2000) (hT : ∀ j, 4 ≤ j → j < 76 → 0 ≤ H j ∧ H j ≤ 999) (r0 : -1000000 ≤ R i.toNat 0 ∧ R i.toNat 0 ≤ 1000000) (r1 : -1000000 ≤ R i.toNat 1 ∧ R i.toNat 1 ≤ 1000000) (r4 : -1000000 ≤ R i.toNat 4 ∧ R i.toNat 4 ≤ 1000000) (r6 : -1000000 ≤ R i.toNat 6 ∧ R i.toNat 6 ≤ 1000000) (q228 : -10000000 ≤ g 228 ∧ g 228 ≤ 10000000) (q229 : -10000000 ≤ g 229 ∧ g 229 ≤ 10000000) (h : ∀ M, yc_S y la lb lc yr M0 (ye_c1 H R g i z) A B C (ye_ru R i.toNat (ye_mi H i.toNat (ye_pc (R i.toNat) (ye_in H R i z)))) M → Q none G M) : mj_R mj_tab (d + 1) 107 [.inr (.inr (some y)), .inr (.inr (some pl)), .inl i, .inl z] G M Q := by
  have t0 := hT (4 + 9 * i.toNat) (by omega) (by omega)
  have t1 := hT (5 + 9 * i.toNat) (by omega) (by omega)
  have t5 := hT (9 + 9 * i.toNat) (by omega) (by omega)
  refine ⟨Nat.le_of_ble_eq_true rfl, ?_⟩
  show wz d mt_X10_pourTo.2.2.2.2.1 _ mt_X10_pourTo.2.2.2.2.1 [some (.inr (.inr (some y))), some (.inr (.inr (some pl))), some (.inl i), some (.inl z), none, none, none, none] [] G M _ _
  refine w_aln rfl ?_
  refine w_gr hL.gy hL.hu.2.1 (by decide) rfl (hC.rf hL.y6) ?_
  refine w_iln rfl ?_
  refine w_aald hL.goa hL.hu.2.2.2.2.2.2.1 (by show (0 : Int) ≤ i; omega) (by show i < ((8 : Nat) : Int); omega) (hC.rf (hL.ot _ (by show i.toNat < 8; omega))) ?_
  refine w_as ?_
  show wz _ _ _ _ [some (.inr (.inr (some y))), some (.inr (.inr (some pl))), some (.inl i), some (.inl z), some (.inr (.inr (some (yr i.toNat)))), none, none, none] _ _ _ _ _
  refine w_iln rfl ?_
  refine w_aln rfl ?_
  refine w_gr hL.gpl rfl (by decide) rfl (hC.rf hL.p1) ?_
  refine w_iln rfl ?_
  refine w_aald hL.gta rfl (by show (0 : Int) ≤ i; omega) (by show i < ((8 : Nat) : Int); omega) (hC.rf (hL.tt _ (by show i.toNat < 8; omega))) ?_
  refine w_ic ?_
  refine w_iald (v := (H (4 + 9 * i.toNat))) (hL.gtr _ (by show i.toNat < 8; omega)) rfl (by show (0 : Int) ≤ 0; omega) (by show 0 < ((9 : Nat) : Int); omega) (((congrFun (hC.oo hL (hL.gtr _ (by show i.toNat < 8; omega)) (by decide)) _).trans (hL.nt _ 0 (by show i.toNat < 8; omega) (by decide))).trans (congrArg H (show 4 + 9 * i.toNat + 0 = 4 + 9 * i.toNat by omega))) ?_
  refine w_min (Nat.le_of_ble_eq_true rfl) ?_
  intro z1 fz1 gz1
  refine w_is ?_
  show wz _ _ _ _ [some (.inr (.inr (some y))), some (.inr (.inr (some pl))), some (.inl i), some (.inl z), some (.inr (.inr (some (yr i.toNat)))), some (.inl z1), none, none] _ _ _ _ _
  refine w_iln rfl ?_
  refine w_il rfl ?_
  refine w_sub ⟨by show (-2147483648 : Int) ≤ z - z1; omega, by show z - z1 < (2147483648 : Int); omega⟩ ?_
  refine w_is ?_
  show wz _ _ _ _ [some (.inr (.inr (some y))), some (.inr (.inr (some pl))), some (.inl i), some (.inl z), some (.inr (.inr (some (yr i.toNat)))), some (.inl z1), some (.inl (z - z1)), none] _ _ _ _ _
  refine w_il rfl ?_
  refine w_aln rfl ?_
  refine w_gr hL.gpl rfl (by decide) rfl (hC.rf hL.p1) ?_
  refine w_iln rfl ?_
  refine w_aald hL.gta rfl (by show (0 : Int) ≤ i; omega) (by show i < ((8 : Nat) : Int); omega) (hC.rf (hL.tt _ (by show i.toNat < 8; omega))) ?_
  refine w_ic ?_
  refine w_iald (v := (H (5 + 9 * i.toNat))) (hL.gtr _ (by show i.toNat < 8; omega)) rfl (by show (0 : Int) ≤ 1; omega) (by show 1 < ((9 : Nat) : Int); omega) (((congrFun (hC.oo hL (hL.gtr _ (by show i.toNat < 8; omega)) (by decide)) _).trans (hL.nt _ 1 (by show i.toNat < 8; omega) (by decide))).trans (congrArg H (show 4 + 9 * i.toNat + 1 = 5 + 9 * i.toNat by omega))) ?_
  refine w_al rfl ?_
  refine w_ic ?_
  refine w_iald (v := (R i.toNat 0)) (hL.gyr _ (by show i.toNat < 8; omega)) hL.hu.2.2.2.2.2.1 (by show (0 : Int) ≤ 0; omega) (by show 0 < ((11 : Nat) : Int); omega) (hC.vR (w := 0) (by show i.toNat < 8; omega) (by decide)) ?_
  refine w_sub ⟨by show (-2147483648 : Int) ≤ (H (5 + 9 * i.toNat)) - (R i.toNat 0); omega, by show (H (5 + 9 * i.toNat)) - (R i.toNat 0) < (2147483648 : Int); omega⟩ ?_
  refine w_min (Nat.le_of_ble_eq_true rfl) ?_
  intro z2 fz2 gz2
  refine w_is ?_
  show wz _ _ _ _ [some (.inr (.inr (some y))), some (.inr (.inr (some pl))), some (.inl i), some (.inl z), some (.inr (.inr (some (yr i.toNat)))), some (.inl z1), some (.inl (z - z1)), some (.inl z2)] _ _ _ _ _
  refine w_aln rfl ?_
  refine w_dupr ?_
  refine w_gi hL.gy hL.hu.2.1 (by decide) rfl (hC.f (j := 228) (by decide) (by decide) rfl) ?_
  refine w_il rfl ?_
  refine w_add ⟨by show (-2147483648 : Int) ≤ (g 228) + z1; omega, by show (g 228) + z1 < (2147483648 : Int); omega⟩ ?_
  refine w_pi hL.gy hL.hu.2.1 (hL.hu.1 0 (by decide)) rfl (fun q => by cases q) ?_
  have hC3 := hC.pf (j := 228) (v := (g 228) + z1) hL (by decide) (by decide) rfl
  refine w_aln rfl ?_
  refine w_dupr ?_
  refine w_gi hL.gy hL.hu.2.1 (by decide) rfl ((hC3.f (j := 229) (by decide) (by decide) rfl).trans ((rv_up_n (by decide)))) ?_
  refine w_il rfl ?_
  refine w_il rfl ?_
  refine w_sub ⟨by show (-2147483648 : Int) ≤ (z - z1) - z2; omega, by show (z - z1) - z2 < (2147483648 : Int); omega⟩ ?_
  refine w_add ⟨by show (-2147483648 : Int) ≤ (g 229) + ((z - z1) - z2); omega, by show (g 229) + ((z - z1) - z2) < (2147483648 : Int); omega⟩ ?_
  refine w_pi hL.gy hL.hu.2.1 (hL.hu.1 0 (by decide)) rfl (fun q => by cases q) ?_
  have hC4 := hC3.pf (j := 229) (v := (g 229) + ((z - z1) - z2)) hL (by decide) (by decide) rfl
  refine w_al rfl ?_
  refine w_ic ?_
  refine w_dup2 ?_
  refine w_iald (v := (R i.toNat 0)) (hL.gyr _ (by show i.toNat < 8; omega)) hL.hu.2.2.2.2.2.1 (by show (0 : Int) ≤ 0; omega) (by show 0 < ((11 : Nat) : Int); omega) (hC4.vR (w := 0) (by show i.toNat < 8; omega) (by decide)) ?_
  refine w_il rfl ?_
  refine w_add ⟨by show (-2147483648 : Int) ≤ (R i.toNat 0) + z2; omega, by show (R i.toNat 0) + z2 < (2147483648 : Int); omega⟩ ?_
  refine w_iast (hL.gyr _ (by show i.toNat < 8; omega)) hL.hu.2.2.2.2.2.1 (hL.hu.1 5 (by decide)) (by show (0 : Int) ≤ 0; omega) (by show 0 < ((11 : Nat) : Int); omega) ?_
  have hC5 := hC4.op i.toNat
  have hC6 := hC5.pr (w := (0 : Int).toNat) (v := (R i.toNat 0) + z2) hL (by show i.toNat < 8; omega)
  refine w_al rfl ?_
  refine w_bp ?_
  refine w_dup2 ?_
  refine w_iald (v := (R i.toNat 6)) (hL.gyr _ (by show i.toNat < 8; omega)) hL.hu.2.2.2.2.2.1 (by show (0 : Int) ≤ 6; omega) (by show 6 < ((11 : Nat) : Int); omega) ((hC6.rr (w := 6) (by show i.toNat < 8; omega) (by decide)).trans ((rv_up_n (by decide)))) ?_
  refine w_il rfl ?_
  refine w_add ⟨by show (-2147483648 : Int) ≤ (R i.toNat 6) + z2; omega, by show (R i.toNat 6) + z2 < (2147483648 : Int); omega⟩ ?_
  refine w_iast (hL.gyr _ (by show i.toNat < 8; omega)) hL.hu.2.2.2.2.2.1 (hL.hu.1 5 (by decide)) (by show (0 : Int) ≤ 6; omega) (by show 6 < ((11 : Nat) : Int); omega) ?_
  have hC7 := hC6.pr (w := (6 : Int).toNat) (v := (R i.toNat 6) + z2) hL (by show i.toNat < 8; omega)
  refine w_al rfl ?_
  refine w_ic ?_
  refine w_dup2 ?_
  refine w_iald (v := (R i.toNat 4)) (hL.gyr _ (by show i.toNat < 8; omega)) hL.hu.2.2.2.2.2.1 (by show (0 : Int) ≤ 4; omega) (by show 4 < ((11 : Nat) : Int); omega) ((hC7.rr (w := 4) (by show i.toNat < 8; omega) (by decide)).trans ((rv_up_n (by decide)).trans ((rv_up_n (by decide))))) ?_
  refine w_ic ?_
  refine w_add ⟨by show (-2147483648 : Int) ≤ (R i.toNat 4) + 1; omega, by show (R i.toNat 4) + 1 < (2147483648 : Int); omega⟩ ?_
  refine w_iast (hL.gyr _ (by show i.toNat < 8; omega)) hL.hu.2.2.2.2.2.1 (hL.hu.1 5 (by decide)) (by show (0 : Int) ≤ 4; omega) (by show 4 < ((11 : Nat) : Int); omega) ?_
  have hC8 := hC7.pr (w := (4 : Int).toNat) (v := (R i.toNat 4) + 1) hL (by show i.toNat < 8; omega)
  refine w_al rfl ?_
  refine w_ic ?_
  refine w_dup2 ?_
  refine w_iald (v := (R i.toNat 1)) (hL.gyr _ (by show i.toNat < 8; omega)) hL.hu.2.2.2.2.2.1 (by show (0 : Int) ≤ 1; omega) (by show 1 < ((11 : Nat) : Int); omega) ((hC8.rr (w := 1) (by show i.toNat < 8; omega) (by decide)).trans ((rv_up_n (by decide)).trans ((rv_up_n (by decide)).trans ((rv_up_n (by decide)))))) ?_
  refine w_aln rfl ?_
  refine w_gr hL.gpl rfl (by decide) rfl (hC8.rf hL.p1) ?_
  refine w_iln rfl ?_
  refine w_aald hL.gta rfl (by show (0 : Int) ≤ i; omega) (by show i < ((8 : Nat) : Int); omega) (hC8.rf (hL.tt _ (by show i.toNat < 8; omega))) ?_
  refine w_ic ?_
  refine w_iald (v := (H (9 + 9 * i.toNat))) (hL.gtr _ (by show i.toNat < 8; omega)) rfl (by show (0 : Int) ≤ 5; omega) (by show 5 < ((9 : Nat) : Int); omega) (((congrFun (hC8.oo hL (hL.gtr _ (by show i.toNat < 8; omega)) (by decide)) _).trans (hL.nt _ 5 (by show i.toNat < 8; omega) (by decide))).trans (congrArg H (show 4 + 9 * i.toNat + 5 = 9 + 9 * i.toNat by omega))) ?_
  refine w_add ⟨by show (-2147483648 : Int) ≤ (R i.toNat 1) + (H (9 + 9 * i.toNat)); omega, by show (R i.toNat 1) + (H (9 + 9 * i.toNat)) < (2147483648 : Int); omega⟩ ?_
  refine w_iast (hL.gyr _ (by show i.toNat < 8; omega)) hL.hu.2.2.2.2.2.1 (hL.hu.1 5 (by decide)) (by show (0 : Int) ≤ 1; omega) (by show 1 < ((11 : Nat) : Int); omega) ?_
  have hC9 := hC8.pr (w := (1 : Int).toNat) (v := (R i.toNat 1) + (H (9 + 9 * i.toNat))) hL (by show i.toNat < 8; omega)
  have e1 : ye_se H i z = z1 := by unfold ye_se; split <;> omega
  have e2 : ye_in H R i z = z2 := by unfold ye_in; rw [e1]; split <;> omega
  exact w_ret (h _ (hC9.cg (fun j _ _ => by unfold ye_c1; rw [e1, e2]) (by rw [e2]; exact ye_ru_c (ye_11 rfl rfl rfl rfl rfl rfl rfl rfl rfl rfl rfl))))
section YP
variable {H : Nat → Int} {R : Nat → Nat → Int} {L O W : Int}
theorem ye_ml0 (hO : O = -1) : ∀ t w, t < 8 → w < 11 → R t w = ye_ml H 8 O (ye_R2 H R 8 O W) t w := fun t w ht _ => by
  unfold ye_ml ye_R2
  rw [if_neg (by omega), if_pos rfl]
theorem ye_ml1 (h8 : L ≠ 8) (hL : 0 ≤ L) (hO : O = -1) : ∀ t w, t < 8 → w < 11 → ye_ru R L.toNat (ye_mi H L.toNat (ye_pc (R L.toNat) (ye_in H R L W))) t w = ye_ml H L O (ye_R2 H R L O W) t w := fun t w ht _ => by
  unfold ye_ml ye_R2
  rw [if_neg h8, if_pos (show O < 0 by omega)]
  unfold ye_cR
  by_cases e : t = L.toNat
  · subst e
    rw [if_pos (by omega), ye_ru_s, ye_ru_s]
  · rw [if_neg (by omega), ye_ru_n e, ye_ru_n e]
theorem ye_ml2 (h8 : L ≠ 8) (hL : 0 ≤ L) (hO : 0 ≤ O) (hn : L ≠ O) {z z2 : Int} : ∀ t w, t < 8 → w < 11 → ye_ru (ye_ru R L.toNat (ye_mi H L.toNat (ye_pc (R L.toNat) (ye_in H R L z)))) O.toNat (ye_mi H O.toNat (ye_pc ((ye_ru R L.toNat (ye_mi H L.toNat (ye_pc (R L.toNat) (ye_in H R L z)))) O.toNat) (ye_in H (ye_ru R L.toNat (ye_mi H L.toNat (ye_pc (R L.toNat) (ye_in H R L z)))) O z2))) t w = ye_ml H L O (ye_cR H (ye_cR H R L z) O z2) t w := fun t w ht _ => by
  have n1 : O.toNat ≠ L.toNat := by omega
  unfold ye_ml
  have e1 : ye_in H (ye_ru R L.toNat (ye_mi H L.toNat (ye_pc (R L.toNat) (ye_in H R L z)))) O z2 = ye_in H (ye_cR H R L z) O z2 := ye_in_c (by unfold ye_cR; rw [ye_ru_n n1, ye_ru_n n1])
  rw [e1, ye_ru_n n1]
  by_cases e : t = O.toNat
  · subst e
    rw [if_pos (by omega), ye_ru_s]
    show _ = ye_mi H O.toNat (ye_ru (ye_cR H R L z) O.toNat _ O.toNat) w
    rw [ye_ru_s]
    unfold ye_cR
    rw [ye_ru_n n1]
  · rw [ye_ru_n e]
    by_cases e2 : t = L.toNat
    · subst e2
      rw [if_pos (by omega), ye_ru_s]
      show _ = ye_mi H L.toNat (ye_ru (ye_cR H R L z) O.toNat _ L.toNat) w
      rw [ye_ru_n e]
      unfold ye_cR
      rw [ye_ru_s]
    · rw [if_neg (by omega), ye_ru_n e2]
      show _ = ye_ru (ye_cR H R L z) O.toNat _ t w
      rw [ye_ru_n e]
      unfold ye_cR
      rw [ye_ru_n e2]
end YP
theorem r_X10_pour {G : mj_G} {M M0 : mj_M} {u : Nat → Nat} {y la lb lc oa pl ta ba wa dl fa sa ca : Nat} {yr tr br : Nat → Nat} {H : Nat → Int} {g A B C : Nat → Int} {R : Nat → Nat → Int} {Q : mj_P} {d : Nat} (hL : yc_L G M0 u y la lb lc oa yr pl ta ba wa tr br dl fa sa ca H) {mi z : Int} (hC : yc_S y la lb lc yr M0 g A B C R M) (hm : g 222 = mi) (m0 : 0 ≤ mi ∧ mi ≤ 11) (hT : ∀ j, 4 ≤ j → j < 76 → 0 ≤ H j ∧ H j ≤ 999) (hz : 0 ≤ z ∧ z ≤ 2000) (hl : A mi.toNat = 8 ∨ (0 ≤ A mi.toNat ∧ A mi.toNat ≤ 7)) (ho : B mi.toNat = -1 ∨ (0 ≤ B mi.toNat ∧ B mi.toNat ≤ 7)) (hlo : A mi.toNat = 8 → B mi.toNat = -1) (hn : A mi.toNat ≠ B mi.toNat) (hR : ∀ t w, t < 8 → w < 11 → -500000 ≤ R t w ∧ R t w ≤ 500000) (hR0 : ∀ t, t < 8 → 0 ≤ R t 0 ∧ R t 0 ≤ 999) (q226 : -1000000 ≤ g 226 ∧ g 226 ≤ 1000000) (q228 : -1000000 ≤ g 228 ∧ g 228 ≤ 1000000) (q229 : -1000000 ≤ g 229 ∧ g 229 ≤ 1000000) (q230 : -1000000 ≤ g 230 ∧ g 230 ≤ 1000000) (h : ∀ M, yc_S y la lb lc yr M0 (ye_g2 H R (rv_up g 226 (g 226 + z)) (A mi.toNat) (B mi.toNat) z) A B C (ye_ml H (A mi.toNat) (B mi.toNat) (ye_R2 H R (A mi.toNat) (B mi.toNat) z)) M → Q none G M) : mj_R mj_tab (d + 2) 106 [.inr (.inr (some y)), .inr (.inr (some pl)), .inl z] G M Q := by
  have hse : ∀ t z2 : Int, 0 ≤ t → t ≤ 7 → 0 ≤ z2 → z2 ≤ 2000 → 0 ≤ ye_se H t z2 ∧ ye_se H t z2 ≤ z2 := fun t z2 t1 t2 t3 t4 => by
    have t0 := hT (4 + 9 * t.toNat) (by omega) (by omega)
    unfold ye_se; split <;> omega
  have hin : ∀ (R2 : Nat → Nat → Int) (t z2 : Int), 0 ≤ t → t ≤ 7 → 0 ≤ z2 → z2 ≤ 2000 → 0 ≤ R2 t.toNat 0 → R2 t.toNat 0 ≤ 999 → -999 ≤ ye_in H R2 t z2 ∧ ye_in H R2 t z2 ≤ 2000 := fun R2 t z2 t1 t2 t3 t4 t5 t6 => by
    have t0 := hT (5 + 9 * t.toNat) (by omega) (by omega)
    have h2 := hse t z2 t1 t2 t3 t4
    unfold ye_in; split <;> omega
  refine ⟨Nat.le_of_ble_eq_true rfl, ?_⟩
  show wz (d + 1) mt_X10_pour.2.2.2.2.1 _ mt_X10_pour.2.2.2.2.1 [some (.inr (.inr (some y))), some (.inr (.inr (some pl))), some (.inl z), none, none, none] [] G M _ _
  refine w_aln rfl ?_
  refine w_gr hL.gy hL.hu.2.1 (by decide) rfl (hC.rf hL.y3) ?_
  refine w_aln rfl ?_
  refine w_gi hL.gy hL.hu.2.1 (by decide) rfl ((hC.f (j := 222) (by decide) (by decide) rfl).trans hm) ?_
  refine w_iald (v := (A mi.toNat)) hL.gla hL.hu.2.2.1 (by show (0 : Int) ≤ mi; omega) (by show mi < ((12 : Nat) : Int); omega) (hC.vA (by show mi.toNat < 12; omega)) ?_
  refine w_isn ?_
  show wz _ _ _ _ [some (.inr (.inr (some y))), some (.inr (.inr (some pl))), some (.inl z), some (.inl (A mi.toNat)), none, none] _ _ _ _ _
  refine w_aln rfl ?_
  refine w_gr hL.gy hL.hu.2.1 (by decide) rfl (hC.rf hL.y4) ?_
  refine w_aln rfl ?_
  refine w_gi hL.gy hL.hu.2.1 (by decide) rfl ((hC.f (j := 222) (by decide) (by decide) rfl).trans hm) ?_
  refine w_iald (v := (B mi.toNat)) hL.glb hL.hu.2.2.2.1 (by show (0 : Int) ≤ mi; omega) (by show mi < ((12 : Nat) : Int); omega) (hC.vB (by show mi.toNat < 12; omega)) ?_
  refine w_is ?_
  show wz _ _ _ _ [some (.inr (.inr (some y))), some (.inr (.inr (some pl))), some (.inl z), some (.inl (A mi.toNat)), some (.inl (B mi.toNat)), none] _ _ _ _ _
  refine w_aln rfl ?_
  refine w_dupr ?_
  refine w_gi hL.gy hL.hu.2.1 (by decide) rfl (hC.f (j := 226) (by decide) (by decide) rfl) ?_
  refine w_iln rfl ?_
  refine w_add ⟨by show (-2147483648 : Int) ≤ (g 226) + z; omega, by show (g 226) + z < (2147483648 : Int); omega⟩ ?_
  refine w_pi hL.gy hL.hu.2.1 (hL.hu.1 0 (by decide)) rfl (fun q => by cases q) ?_
  have hC1 := hC.pf (j := 226) (v := (g 226) + z) hL (by decide) (by decide) rfl
  refine w_iln rfl ?_
  refine w_bp ?_
  refine w_cmne (fun c2 => ?_) (fun c2 => ?_)
  · skip
    refine w_aln rfl ?_
    refine w_dupr ?_
    refine w_gi hL.gy hL.hu.2.1 (by decide) rfl ((hC1.f (j := 230) (by decide) (by decide) rfl).trans ((rv_up_n (by decide)))) ?_
    refine w_ic ?_
    refine w_add ⟨by show (-2147483648 : Int) ≤ (g 230) + 1; omega, by show (g 230) + 1 < (2147483648 : Int); omega⟩ ?_
    refine w_pi hL.gy hL.hu.2.1 (hL.hu.1 0 (by decide)) rfl (fun q => by cases q) ?_
    have hC3 := hC1.pf (j := 230) (v := (g 230) + 1) hL (by decide) (by decide) rfl
    refine w_il rfl ?_
    refine w_ic ?_
    refine w_cmne (fun c4 => ?_) (fun c4 => ?_)
    · skip
      refine w_iln rfl ?_
      refine w_ic ?_
      refine w_div (by decide) ?_
      intro z5 hz5 ez5
      obtain rfl : z5 = (z / 2) := ye_half (by omega) (by omega) ez5
      refine w_is ?_
      show wz _ _ _ _ [some (.inr (.inr (some y))), some (.inr (.inr (some pl))), some (.inl z), some (.inl (A mi.toNat)), some (.inl (B mi.toNat)), some (.inl (z / 2))] _ _ _ _ _
      refine w_aln rfl ?_
      refine w_aln rfl ?_
      refine w_iln rfl ?_
      refine w_iln rfl ?_
      refine w_il rfl ?_
      refine w_sub ⟨by show (-2147483648 : Int) ≤ z - (z / 2); omega, by show z - (z / 2) < (2147483648 : Int); omega⟩ ?_
      refine w_cv (st := []) rfl hL.gy hL.hu.2.1 (Nat.le_of_ble_eq_true rfl) (fun kk h => h) (r_X10_pourTo (d := d) hL hC3 (by show 0 ≤ (A mi.toNat) ∧ (A mi.toNat) ≤ 7; omega) (by show 0 ≤ z - (z / 2) ∧ z - (z / 2) ≤ 2000; omega) hT ((hR (A mi.toNat).toNat 0 (by show (A mi.toNat).toNat < 8; omega) (by decide)).imp (fun q => by omega) (fun q => by omega)) ((hR (A mi.toNat).toNat 1 (by show (A mi.toNat).toNat < 8; omega) (by decide)).imp (fun q => by omega) (fun q => by omega)) ((hR (A mi.toNat).toNat 4 (by show (A mi.toNat).toNat < 8; omega) (by decide)).imp (fun q => by omega) (fun q => by omega)) ((hR (A mi.toNat).toNat 6 (by show (A mi.toNat).toNat < 8; omega) (by decide)).imp (fun q => by omega) (fun q => by omega)) (by rw [show (rv_up (rv_up g 226 ((g 226) + z)) 230 ((g 230) + 1)) 228 = g 228 from (rv_up_n (by decide)).trans ((rv_up_n (by decide)))]; omega) (by rw [show (rv_up (rv_up g 226 ((g 226) + z)) 230 ((g 230) + 1)) 229 = g 229 from (rv_up_n (by decide)).trans ((rv_up_n (by decide)))]; omega) (fun M6 hC7 => ?_))
      refine w_il rfl ?_
      refine w_ic ?_
      refine w_cmeq (fun c8 => ?_) (fun c8 => ?_)
      · exfalso; omega
      · skip
        refine w_aln rfl ?_
        refine w_aln rfl ?_
        refine w_il rfl ?_
        refine w_il rfl ?_
        have hs1 := hse (A mi.toNat) (z - (z / 2)) (by omega) (by omega) (by omega) (by omega)
        have hi1 := hin R (A mi.toNat) (z - (z / 2)) (by omega) (by omega) (by omega) (by omega) (hR0 _ (by omega)).1 (hR0 _ (by omega)).2
        refine w_cv (st := []) rfl hL.gy hL.hu.2.1 (Nat.le_of_ble_eq_true rfl) (fun kk h => h) (r_X10_pourTo (d := d) hL hC7 (by show 0 ≤ (B mi.toNat) ∧ (B mi.toNat) ≤ 7; omega) (by show 0 ≤ (z / 2) ∧ (z / 2) ≤ 2000; omega) hT (by rw [ye_ru_n (show (B mi.toNat).toNat ≠ (A mi.toNat).toNat by omega)]; have q := hR (B mi.toNat).toNat 0 (by omega) (by decide); omega) (by rw [ye_ru_n (show (B mi.toNat).toNat ≠ (A mi.toNat).toNat by omega)]; have q := hR (B mi.toNat).toNat 1 (by omega) (by decide); omega) (by rw [ye_ru_n (show (B mi.toNat).toNat ≠ (A mi.toNat).toNat by omega)]; have q := hR (B mi.toNat).toNat 4 (by omega) (by decide); omega) (by rw [ye_ru_n (show (B mi.toNat).toNat ≠ (A mi.toNat).toNat by omega)]; have q := hR (B mi.toNat).toNat 6 (by omega) (by decide); omega) (by rw [show (ye_c1 H R (rv_up (rv_up g 226 ((g 226) + z)) 230 ((g 230) + 1)) (A mi.toNat) (z - (z / 2))) 228 = g 228 + ye_se H (A mi.toNat) (z - (z / 2)) from rfl]; omega) (by rw [show (ye_c1 H R (rv_up (rv_up g 226 ((g 226) + z)) 230 ((g 230) + 1)) (A mi.toNat) (z - (z / 2))) 229 = g 229 + ((z - (z / 2)) - ye_se H (A mi.toNat) (z - (z / 2)) - ye_in H R (A mi.toNat) (z - (z / 2))) from rfl]; omega) (fun M9 hC10 => ?_))
        refine w_ret (h _ (hC10.cg (fun j _ _ => ?_) (fun t w ht hw => ?_)))
        · unfold ye_g2; rw [if_neg (by omega), if_neg (by omega)]
          unfold ye_c1
          rw [show ye_in H (ye_ru R (A mi.toNat).toNat (ye_mi H (A mi.toNat).toNat (ye_pc (R (A mi.toNat).toNat) (ye_in H R (A mi.toNat) (z - z / 2))))) (B mi.toNat) (z / 2) = ye_in H (ye_cR H R (A mi.toNat) (z - z / 2)) (B mi.toNat) (z / 2) from ye_in_c (by unfold ye_cR; rw [ye_ru_n (show (B mi.toNat).toNat ≠ (A mi.toNat).toNat by omega), ye_ru_n (show (B mi.toNat).toNat ≠ (A mi.toNat).toNat by omega)])]
          rfl
        · show _ = ye_ml H (A mi.toNat) (B mi.toNat) (ye_R2 H R (A mi.toNat) (B mi.toNat) z) t w
          unfold ye_R2; rw [if_neg (by omega), if_neg (by omega)]
          exact ye_ml2 (by omega) (by omega) (by omega) hn t w ht hw
    · skip
      refine w_ic ?_
      refine w_goto ?_
      refine w_is ?_
      show wz _ _ _ _ [some (.inr (.inr (some y))), some (.inr (.inr (some pl))), some (.inl z), some (.inl (A mi.toNat)), some (.inl (B mi.toNat)), some (.inl 0)] _ _ _ _ _
      refine w_aln rfl ?_
      refine w_aln rfl ?_
      refine w_iln rfl ?_
      refine w_iln rfl ?_
      refine w_il rfl ?_
      refine w_sub ⟨by show (-2147483648 : Int) ≤ z - 0; omega, by show z - 0 < (2147483648 : Int); omega⟩ ?_
      refine w_cv (st := []) rfl hL.gy hL.hu.2.1 (Nat.le_of_ble_eq_true rfl) (fun kk h => h) (r_X10_pourTo (d := d) hL hC3 (by show 0 ≤ (A mi.toNat) ∧ (A mi.toNat) ≤ 7; omega) (by show 0 ≤ z - 0 ∧ z - 0 ≤ 2000; omega) hT ((hR (A mi.toNat).toNat 0 (by show (A mi.toNat).toNat < 8; omega) (by decide)).imp (fun q => by omega) (fun q => by omega)) ((hR (A mi.toNat).toNat 1 (by show (A mi.toNat).toNat < 8; omega) (by decide)).imp (fun q => by omega) (fun q => by omega)) ((hR (A mi.toNat).toNat 4 (by show (A mi.toNat).toNat < 8; omega) (by decide)).imp (fun q => by omega) (fun q => by omega)) ((hR (A mi.toNat).toNat 6 (by show (A mi.toNat).toNat < 8; omega) (by decide)).imp (fun q => by omega) (fun q => by omega)) (by rw [show (rv_up (rv_up g 226 ((g 226) + z)) 230 ((g 230) + 1)) 228 = g 228 from (rv_up_n (by decide)).trans ((rv_up_n (by decide)))]; omega) (by rw [show (rv_up (rv_up g 226 ((g 226) + z)) 230 ((g 230) + 1)) 229 = g 229 from (rv_up_n (by decide)).trans ((rv_up_n (by decide)))]; omega) (fun M11 hC12 => ?_))
      refine w_il rfl ?_
      refine w_ic ?_
      refine w_cmeq (fun c13 => ?_) (fun c13 => ?_)
      · skip
        have eO : B mi.toNat = -1 := by omega
        have ez : (z - 0) = z := by omega
        have hC9 := hC12
        rw [ez] at hC9
        exact w_ret (h _ (hC9.cg (fun j _ _ => by unfold ye_g2; rw [if_neg (by omega), if_pos (by omega)]; rfl) (ye_ml1 (by omega) (by omega) eO)))
      · exfalso; omega
  · skip
    refine w_aln rfl ?_
    refine w_dupr ?_
    refine w_gi hL.gy hL.hu.2.1 (by decide) rfl ((hC1.f (j := 229) (by decide) (by decide) rfl).trans ((rv_up_n (by decide)))) ?_
    refine w_iln rfl ?_
    refine w_add ⟨by show (-2147483648 : Int) ≤ (g 229) + z; omega, by show (g 229) + z < (2147483648 : Int); omega⟩ ?_
    refine w_pi hL.gy hL.hu.2.1 (hL.hu.1 0 (by decide)) rfl (fun q => by cases q) ?_
    have hC14 := hC1.pf (j := 229) (v := (g 229) + z) hL (by decide) (by decide) rfl
    have e8 : A mi.toNat = 8 := by omega
    have eO := hlo e8
    rw [e8] at h
    exact w_ret (h _ (hC14.cg (fun j _ _ => by unfold ye_g2; rw [if_pos rfl]; rfl) (ye_ml0 eO)))
theorem r_X10_drink {G : mj_G} {M M0 : mj_M} {u : Nat → Nat} {y la lb lc oa pl ta ba wa dl fa sa ca : Nat} {yr tr br : Nat → Nat} {H : Nat → Int} {g A B C : Nat → Int} {R : Nat → Nat → Int} {Q : mj_P} {d : Nat} (hL : yc_L G M0 u y la lb lc oa yr pl ta ba wa tr br dl fa sa ca H) {i : Int} (hC : yc_S y la lb lc yr M0 g A B C R M) (hi : 0 ≤ i ∧ i ≤ 7) (hT : ∀ j, 4 ≤ j → j < 76 → 0 ≤ H j ∧ H j ≤ 999) (h3 : 1 ≤ H 3 ∧ H 3 ≤ 12) (r0 : 0 ≤ R i.toNat 0 ∧ R i.toNat 0 ≤ 999) (r2 : -1000000 ≤ R i.toNat 2 ∧ R i.toNat 2 ≤ 1000000) (r3 : -1000000 ≤ R i.toNat 3 ∧ R i.toNat 3 ≤ 1000000) (r7 : -1000000 ≤ R i.toNat 7 ∧ R i.toNat 7 ≤ 1000000) (r8 : -1000000 ≤ R i.toNat 8 ∧ R i.toNat 8 ≤ 1000000) (r10 : -1000000 ≤ R i.toNat 10 ∧ R i.toNat 10 ≤ 1000000) (h8 : 0 ≤ R i.toNat 8) (q227 : -10000000 ≤ g 227 ∧ g 227 ≤ 10000000) (q229 : -10000000 ≤ g 229 ∧ g 229 ≤ 10000000) (h : ∀ M, yc_S y la lb lc yr M0 (rv_up (rv_up g 227 (g 227 + (ye_u H i.toNat (R i.toNat) + ye_fl H i.toNat (R i.toNat)))) 229 (g 229 + ye_sp H i.toNat (R i.toNat))) A B C (ye_ru R i.toNat (ye_dk H i.toNat (R i.toNat))) M → Q none G M) : mj_R mj_tab (d + 2) 92 [.inr (.inr (some y)), .inr (.inr (some pl)), .inl i] G M Q := by
  have t2 := hT (6 + 9 * i.toNat) (by omega) (by omega)
  have t7 := hT (11 + 9 * i.toNat) (by omega) (by omega)
  refine ⟨Nat.le_of_ble_eq_true rfl, ?_⟩
  show wz (d + 1) mt_X10_drink.2.2.2.2.1 _ mt_X10_drink.2.2.2.2.1 [some (.inr (.inr (some y))), some (.inr (.inr (some pl))), some (.inl i), none, none, none] [] G M _ _
  refine w_aln rfl ?_
  refine w_gr hL.gy hL.hu.2.1 (by decide) rfl (hC.rf hL.y6) ?_
  refine w_iln rfl ?_
  refine w_aald hL.goa hL.hu.2.2.2.2.2.2.1 (by show (0 : Int) ≤ i; omega) (by show i < ((8 : Nat) : Int); omega) (hC.rf (hL.ot _ (by show i.toNat < 8; omega))) ?_
  refine w_asn ?_
  show wz _ _ _ _ [some (.inr (.inr (some y))), some (.inr (.inr (some pl))), some (.inl i), some (.inr (.inr (some (yr i.toNat)))), none, none] _ _ _ _ _
  refine w_aln rfl ?_
  refine w_gr hL.gpl rfl (by decide) rfl (hC.rf hL.p1) ?_
  refine w_iln rfl ?_
  refine w_aald hL.gta rfl (by show (0 : Int) ≤ i; omega) (by show i < ((8 : Nat) : Int); omega) (hC.rf (hL.tt _ (by show i.toNat < 8; omega))) ?_
  refine w_ic ?_
  refine w_iald (v := (H (6 + 9 * i.toNat))) (hL.gtr _ (by show i.toNat < 8; omega)) rfl (by show (0 : Int) ≤ 2; omega) (by show 2 < ((9 : Nat) : Int); omega) (((congrFun (hC.oo hL (hL.gtr _ (by show i.toNat < 8; omega)) (by decide)) _).trans (hL.nt _ 2 (by show i.toNat < 8; omega) (by decide))).trans (congrArg H (show 4 + 9 * i.toNat + 2 = 6 + 9 * i.toNat by omega))) ?_
  refine w_is ?_
  show wz _ _ _ _ [some (.inr (.inr (some y))), some (.inr (.inr (some pl))), some (.inl i), some (.inr (.inr (some (yr i.toNat)))), some (.inl (H (6 + 9 * i.toNat))), none] _ _ _ _ _
  refine w_il rfl ?_
  refine w_aln rfl ?_
  refine w_ic ?_
  refine w_iald (v := (R i.toNat 0)) (hL.gyr _ (by show i.toNat < 8; omega)) hL.hu.2.2.2.2.2.1 (by show (0 : Int) ≤ 0; omega) (by show 0 < ((11 : Nat) : Int); omega) (hC.vR (w := 0) (by show i.toNat < 8; omega) (by decide)) ?_
  refine w_min (Nat.le_of_ble_eq_true rfl) ?_
  intro z1 fz1 gz1
  refine w_is ?_
  show wz _ _ _ _ [some (.inr (.inr (some y))), some (.inr (.inr (some pl))), some (.inl i), some (.inr (.inr (some (yr i.toNat)))), some (.inl (H (6 + 9 * i.toNat))), some (.inl z1)] _ _ _ _ _
  refine w_aln rfl ?_
  refine w_ic ?_
  refine w_dup2 ?_
  refine w_iald (v := (R i.toNat 0)) (hL.gyr _ (by show i.toNat < 8; omega)) hL.hu.2.2.2.2.2.1 (by show (0 : Int) ≤ 0; omega) (by show 0 < ((11 : Nat) : Int); omega) (hC.vR (w := 0) (by show i.toNat < 8; omega) (by decide)) ?_
  refine w_il rfl ?_
  refine w_sub ⟨by show (-2147483648 : Int) ≤ (R i.toNat 0) - z1; omega, by show (R i.toNat 0) - z1 < (2147483648 : Int); omega⟩ ?_
  refine w_iast (hL.gyr _ (by show i.toNat < 8; omega)) hL.hu.2.2.2.2.2.1 (hL.hu.1 5 (by decide)) (by show (0 : Int) ≤ 0; omega) (by show 0 < ((11 : Nat) : Int); omega) ?_
  have hC2 := hC.op i.toNat
  have hC3 := hC2.pr (w := (0 : Int).toNat) (v := (R i.toNat 0) - z1) hL (by show i.toNat < 8; omega)
  refine w_aln rfl ?_
  refine w_dupr ?_
  refine w_gi hL.gy hL.hu.2.1 (by decide) rfl (hC3.f (j := 227) (by decide) (by decide) rfl) ?_
  refine w_il rfl ?_
  refine w_add ⟨by show (-2147483648 : Int) ≤ (g 227) + z1; omega, by show (g 227) + z1 < (2147483648 : Int); omega⟩ ?_
  refine w_pi hL.gy hL.hu.2.1 (hL.hu.1 0 (by decide)) rfl (fun q => by cases q) ?_
  have hC4 := hC3.pf (j := 227) (v := (g 227) + z1) hL (by decide) (by decide) rfl
  refine w_il rfl ?_
  refine w_il rfl ?_
  refine w_cmge (fun c5 => ?_) (fun c5 => ?_)
  · skip
    refine w_aln rfl ?_
    refine w_ic ?_
    refine w_ic ?_
    refine w_iast (hL.gyr _ (by show i.toNat < 8; omega)) hL.hu.2.2.2.2.2.1 (hL.hu.1 5 (by decide)) (by show (0 : Int) ≤ 2; omega) (by show 2 < ((11 : Nat) : Int); omega) ?_
    have hC6 := hC4.pr (w := (2 : Int).toNat) (v := 0) hL (by show i.toNat < 8; omega)
    refine w_aln rfl ?_
    refine w_ic ?_
    refine w_iald (v := 0) (hL.gyr _ (by show i.toNat < 8; omega)) hL.hu.2.2.2.2.2.1 (by show (0 : Int) ≤ 2; omega) (by show 2 < ((11 : Nat) : Int); omega) ((hC6.rr (w := 2) (by show i.toNat < 8; omega) (by decide)).trans (rv_up_s)) ?_
    refine w_aln rfl ?_
    refine w_gi hL.gpl rfl (by decide) rfl ((congrFun (hC6.oo hL hL.gpl (by decide)) 8).trans hL.n8) ?_
    refine w_cmlt (fun c7 => ?_) (fun c7 => ?_)
    · skip
      refine w_aln rfl ?_
      refine w_aln rfl ?_
      refine w_iln rfl ?_
      refine w_cv (st := []) rfl hL.gy hL.hu.2.1 (Nat.le_of_ble_eq_true rfl) (fun kk h => h) ⟨Nat.le_of_ble_eq_true rfl, ?_⟩
      show wz (d) mt_X10_waterField.2.2.2.2.1 _ mt_X10_waterField.2.2.2.2.1 [some (.inr (.inr (some y))), some (.inr (.inr (some pl))), some (.inl i), none, none] [] _ _ _ _
      refine w_aln rfl ?_
      refine w_gr hL.gy hL.hu.2.1 (by decide) rfl (hC6.rf hL.y6) ?_
      refine w_iln rfl ?_
      refine w_aald hL.goa hL.hu.2.2.2.2.2.2.1 (by show (0 : Int) ≤ i; omega) (by show i < ((8 : Nat) : Int); omega) (hC6.rf (hL.ot _ (by show i.toNat < 8; omega))) ?_
      refine w_asn ?_
      show wz _ _ _ _ [some (.inr (.inr (some y))), some (.inr (.inr (some pl))), some (.inl i), some (.inr (.inr (some (yr i.toNat)))), none] _ _ _ _ _
      refine w_aln rfl ?_
      refine w_gr hL.gpl rfl (by decide) rfl (hC6.rf hL.p1) ?_
      refine w_iln rfl ?_
      refine w_aald hL.gta rfl (by show (0 : Int) ≤ i; omega) (by show i < ((8 : Nat) : Int); omega) (hC6.rf (hL.tt _ (by show i.toNat < 8; omega))) ?_
      refine w_bp ?_
      refine w_iald (v := (H (11 + 9 * i.toNat))) (hL.gtr _ (by show i.toNat < 8; omega)) rfl (by show (0 : Int) ≤ 7; omega) (by show 7 < ((9 : Nat) : Int); omega) (((congrFun (hC6.oo hL (hL.gtr _ (by show i.toNat < 8; omega)) (by decide)) _).trans (hL.nt _ 7 (by show i.toNat < 8; omega) (by decide))).trans (congrArg H (show 4 + 9 * i.toNat + 7 = 11 + 9 * i.toNat by omega))) ?_
      refine w_is ?_
      show wz _ _ _ _ [some (.inr (.inr (some y))), some (.inr (.inr (some pl))), some (.inl i), some (.inr (.inr (some (yr i.toNat)))), some (.inl (H (11 + 9 * i.toNat)))] _ _ _ _ _
      refine w_il rfl ?_
      refine w_ifle (fun c8 => ?_) (fun c8 => ?_)
      · skip
        refine w_aln rfl ?_
        refine w_bp ?_
        refine w_ic ?_
        refine w_iast (hL.gyr _ (by show i.toNat < 8; omega)) hL.hu.2.2.2.2.2.1 (hL.hu.1 5 (by decide)) (by show (0 : Int) ≤ 10; omega) (by show 10 < ((11 : Nat) : Int); omega) ?_
        have hC9 := hC6.pr (w := (10 : Int).toNat) (v := 0) hL (by show i.toNat < 8; omega)
        refine w_ret ?_
        have eu : ye_u H i.toNat (R i.toNat) = z1 := by unfold ye_u; split <;> omega
        have ed : ye_d H i.toNat (R i.toNat) = 0 := by unfold ye_d; rw [eu]; split <;> omega
        have es : ye_sp H i.toNat (R i.toNat) = 0 := by unfold ye_sp; rw [ed, eu]; split <;> omega
        have ef : ye_fl H i.toNat (R i.toNat) = 0 := by unfold ye_fl; rw [es, eu]; split <;> omega
        have eg : ye_gr H i.toNat (R i.toNat) = 0 := by unfold ye_gr; rw [es, eu]; split <;> omega
        obtain ⟨w0, w1, w2, w3, w4, w5, w6, w7, w8, w9, w10⟩ := ye_dkw (H := H) (t := i.toNat) (r := R i.toNat)
        refine w_ret (h _ (hC9.cg (ye_10 rfl rfl rfl rfl rfl ?_ rfl ?_ rfl rfl) (ye_ru_c (ye_11 ?_ ?_ ?_ ?_ ?_ ?_ ?_ ?_ ?_ ?_ ?_))))
        · refine (rv_up_s).trans (Eq.trans (b := g 227 + (ye_u H i.toNat (R i.toNat) + ye_fl H i.toNat (R i.toNat))) ?_ rfl)
          first | (rw [eu, ef]; done) | (rw [eu, ef]; omega)
        · refine ((rv_up_n (by decide))).trans (Eq.trans (b := g 229 + ye_sp H i.toNat (R i.toNat)) ?_ rfl)
          first | (rw [es]; done) | (rw [es]; omega)
        · refine ((rv_up_n (by decide)).trans ((rv_up_n (by decide)).trans (rv_up_s))).trans (Eq.trans ?_ w0.symm)
          first | (rw [eu, es, ef]; done) | (rw [eu, es, ef]; (try split) <;> omega)
        · exact ((rv_up_n (by decide)).trans ((rv_up_n (by decide)).trans ((rv_up_n (by decide))))).trans w1.symm
        · refine ((rv_up_n (by decide)).trans (rv_up_s)).trans (Eq.trans ?_ w2.symm)
          first | (rw [ed]; done) | (rw [ed]; (try split) <;> omega)
        · refine ((rv_up_n (by decide)).trans ((rv_up_n (by decide)).trans ((rv_up_n (by decide))))).trans (Eq.trans ?_ w3.symm)
          first | (rw [ed]; done) | (rw [ed]; (try split) <;> omega)
        · exact ((rv_up_n (by decide)).trans ((rv_up_n (by decide)).trans ((rv_up_n (by decide))))).trans w4.symm
        · exact ((rv_up_n (by decide)).trans ((rv_up_n (by decide)).trans ((rv_up_n (by decide))))).trans w5.symm
        · exact ((rv_up_n (by decide)).trans ((rv_up_n (by decide)).trans ((rv_up_n (by decide))))).trans w6.symm
        · refine ((rv_up_n (by decide)).trans ((rv_up_n (by decide)).trans ((rv_up_n (by decide))))).trans (Eq.trans ?_ w7.symm)
          first | (rw [eu]; done) | (rw [eu]; (try split) <;> omega)
        · refine ((rv_up_n (by decide)).trans ((rv_up_n (by decide)).trans ((rv_up_n (by decide))))).trans (Eq.trans ?_ w8.symm)
          first | (rw [eg]; done) | (rw [eg]; (try split) <;> omega)
        · exact ((rv_up_n (by decide)).trans ((rv_up_n (by decide)).trans ((rv_up_n (by decide))))).trans w9.symm
        · refine (rv_up_s).trans (Eq.trans ?_ w10.symm)
          first | (rw [eg]; done) | (rw [eg]; (try split) <;> omega)
        
      · skip
        refine w_aln rfl ?_
        refine w_ic ?_
        refine w_iald (v := (R i.toNat 0) - z1) (hL.gyr _ (by show i.toNat < 8; omega)) hL.hu.2.2.2.2.2.1 (by show (0 : Int) ≤ 0; omega) (by show 0 < ((11 : Nat) : Int); omega) ((hC6.rr (w := 0) (by show i.toNat < 8; omega) (by decide)).trans ((rv_up_n (by decide)).trans (rv_up_s))) ?_
        refine w_il rfl ?_
        refine w_cmlt (fun c10 => ?_) (fun c10 => ?_)
        · skip
          refine w_aln rfl ?_
          refine w_bp ?_
          refine w_ic ?_
          refine w_iast (hL.gyr _ (by show i.toNat < 8; omega)) hL.hu.2.2.2.2.2.1 (hL.hu.1 5 (by decide)) (by show (0 : Int) ≤ 10; omega) (by show 10 < ((11 : Nat) : Int); omega) ?_
          have hC11 := hC6.pr (w := (10 : Int).toNat) (v := 0) hL (by show i.toNat < 8; omega)
          refine w_ret ?_
          have eu : ye_u H i.toNat (R i.toNat) = z1 := by unfold ye_u; split <;> omega
          have ed : ye_d H i.toNat (R i.toNat) = 0 := by unfold ye_d; rw [eu]; split <;> omega
          have es : ye_sp H i.toNat (R i.toNat) = 0 := by unfold ye_sp; rw [ed, eu]; split <;> omega
          have ef : ye_fl H i.toNat (R i.toNat) = 0 := by unfold ye_fl; rw [es, eu]; split <;> omega
          have eg : ye_gr H i.toNat (R i.toNat) = 0 := by unfold ye_gr; rw [es, eu]; split <;> omega
          obtain ⟨w0, w1, w2, w3, w4, w5, w6, w7, w8, w9, w10⟩ := ye_dkw (H := H) (t := i.toNat) (r := R i.toNat)
          refine w_ret (h _ (hC11.cg (ye_10 rfl rfl rfl rfl rfl ?_ rfl ?_ rfl rfl) (ye_ru_c (ye_11 ?_ ?_ ?_ ?_ ?_ ?_ ?_ ?_ ?_ ?_ ?_))))
          · refine (rv_up_s).trans (Eq.trans (b := g 227 + (ye_u H i.toNat (R i.toNat) + ye_fl H i.toNat (R i.toNat))) ?_ rfl)
            first | (rw [eu, ef]; done) | (rw [eu, ef]; omega)
          · refine ((rv_up_n (by decide))).trans (Eq.trans (b := g 229 + ye_sp H i.toNat (R i.toNat)) ?_ rfl)
            first | (rw [es]; done) | (rw [es]; omega)
          · refine ((rv_up_n (by decide)).trans ((rv_up_n (by decide)).trans (rv_up_s))).trans (Eq.trans ?_ w0.symm)
            first | (rw [eu, es, ef]; done) | (rw [eu, es, ef]; (try split) <;> omega)
          · exact ((rv_up_n (by decide)).trans ((rv_up_n (by decide)).trans ((rv_up_n (by decide))))).trans w1.symm
          · refine ((rv_up_n (by decide)).trans (rv_up_s)).trans (Eq.trans ?_ w2.symm)
            first | (rw [ed]; done) | (rw [ed]; (try split) <;> omega)
          · refine ((rv_up_n (by decide)).trans ((rv_up_n (by decide)).trans ((rv_up_n (by decide))))).trans (Eq.trans ?_ w3.symm)
            first | (rw [ed]; done) | (rw [ed]; (try split) <;> omega)
          · exact ((rv_up_n (by decide)).trans ((rv_up_n (by decide)).trans ((rv_up_n (by decide))))).trans w4.symm
          · exact ((rv_up_n (by decide)).trans ((rv_up_n (by decide)).trans ((rv_up_n (by decide))))).trans w5.symm
          · exact ((rv_up_n (by decide)).trans ((rv_up_n (by decide)).trans ((rv_up_n (by decide))))).trans w6.symm
          · refine ((rv_up_n (by decide)).trans ((rv_up_n (by decide)).trans ((rv_up_n (by decide))))).trans (Eq.trans ?_ w7.symm)
            first | (rw [eu]; done) | (rw [eu]; (try split) <;> omega)
          · refine ((rv_up_n (by decide)).trans ((rv_up_n (by decide)).trans ((rv_up_n (by decide))))).trans (Eq.trans ?_ w8.symm)
            first | (rw [eg]; done) | (rw [eg]; (try split) <;> omega)
          · exact ((rv_up_n (by decide)).trans ((rv_up_n (by decide)).trans ((rv_up_n (by decide))))).trans w9.symm
          · refine (rv_up_s).trans (Eq.trans ?_ w10.symm)
            first | (rw [eg]; done) | (rw [eg]; (try split) <;> omega)
          
        · skip
          refine w_aln rfl ?_
          refine w_ic ?_
          refine w_dup2 ?_
          refine w_iald (v := (R i.toNat 0) - z1) (hL.gyr _ (by show i.toNat < 8; omega)) hL.hu.2.2.2.2.2.1 (by show (0 : Int) ≤ 0; omega) (by show 0 < ((11 : Nat) : Int); omega) ((hC6.rr (w := 0) (by show i.toNat < 8; omega) (by decide)).trans ((rv_up_n (by decide)).trans (rv_up_s))) ?_
          refine w_il rfl ?_
          refine w_sub ⟨by show (-2147483648 : Int) ≤ ((R i.toNat 0) - z1) - (H (11 + 9 * i.toNat)); omega, by show ((R i.toNat 0) - z1) - (H (11 + 9 * i.toNat)) < (2147483648 : Int); omega⟩ ?_
          refine w_iast (hL.gyr _ (by show i.toNat < 8; omega)) hL.hu.2.2.2.2.2.1 (hL.hu.1 5 (by decide)) (by show (0 : Int) ≤ 0; omega) (by show 0 < ((11 : Nat) : Int); omega) ?_
          have hC12 := hC6.pr (w := (0 : Int).toNat) (v := ((R i.toNat 0) - z1) - (H (11 + 9 * i.toNat))) hL (by show i.toNat < 8; omega)
          refine w_aln rfl ?_
          refine w_dupr ?_
          refine w_gi hL.gy hL.hu.2.1 (by decide) rfl ((hC12.f (j := 227) (by decide) (by decide) rfl).trans (rv_up_s)) ?_
          refine w_il rfl ?_
          refine w_add ⟨by show (-2147483648 : Int) ≤ ((g 227) + z1) + (H (11 + 9 * i.toNat)); omega, by show ((g 227) + z1) + (H (11 + 9 * i.toNat)) < (2147483648 : Int); omega⟩ ?_
          refine w_pi hL.gy hL.hu.2.1 (hL.hu.1 0 (by decide)) rfl (fun q => by cases q) ?_
          have hC13 := hC12.pf (j := 227) (v := ((g 227) + z1) + (H (11 + 9 * i.toNat))) hL (by decide) (by decide) rfl
          refine w_aln rfl ?_
          refine w_bp ?_
          refine w_dup2 ?_
          refine w_iald (v := (R i.toNat 10)) (hL.gyr _ (by show i.toNat < 8; omega)) hL.hu.2.2.2.2.2.1 (by show (0 : Int) ≤ 10; omega) (by show 10 < ((11 : Nat) : Int); omega) ((hC13.rr (w := 10) (by show i.toNat < 8; omega) (by decide)).trans ((rv_up_n (by decide)).trans ((rv_up_n (by decide)).trans ((rv_up_n (by decide)))))) ?_
          refine w_ic ?_
          refine w_add ⟨by show (-2147483648 : Int) ≤ (R i.toNat 10) + 1; omega, by show (R i.toNat 10) + 1 < (2147483648 : Int); omega⟩ ?_
          refine w_iast (hL.gyr _ (by show i.toNat < 8; omega)) hL.hu.2.2.2.2.2.1 (hL.hu.1 5 (by decide)) (by show (0 : Int) ≤ 10; omega) (by show 10 < ((11 : Nat) : Int); omega) ?_
          have hC14 := hC13.pr (w := (10 : Int).toNat) (v := (R i.toNat 10) + 1) hL (by show i.toNat < 8; omega)
          refine w_aln rfl ?_
          refine w_bp ?_
          refine w_aln rfl ?_
          refine w_bp ?_
          refine w_iald (v := (R i.toNat 8)) (hL.gyr _ (by show i.toNat < 8; omega)) hL.hu.2.2.2.2.2.1 (by show (0 : Int) ≤ 8; omega) (by show 8 < ((11 : Nat) : Int); omega) ((hC14.rr (w := 8) (by show i.toNat < 8; omega) (by decide)).trans ((rv_up_n (by decide)).trans ((rv_up_n (by decide)).trans ((rv_up_n (by decide)).trans ((rv_up_n (by decide))))))) ?_
          refine w_aln rfl ?_
          refine w_bp ?_
          refine w_iald (v := (R i.toNat 10) + 1) (hL.gyr _ (by show i.toNat < 8; omega)) hL.hu.2.2.2.2.2.1 (by show (0 : Int) ≤ 10; omega) (by show 10 < ((11 : Nat) : Int); omega) ((hC14.rr (w := 10) (by show i.toNat < 8; omega) (by decide)).trans (rv_up_s)) ?_
          refine w_max (Nat.le_of_ble_eq_true rfl) ?_
          intro z15 fz15 gz15
          refine w_iast (hL.gyr _ (by show i.toNat < 8; omega)) hL.hu.2.2.2.2.2.1 (hL.hu.1 5 (by decide)) (by show (0 : Int) ≤ 8; omega) (by show 8 < ((11 : Nat) : Int); omega) ?_
          have hC16 := hC14.pr (w := (8 : Int).toNat) (v := z15) hL (by show i.toNat < 8; omega)
          refine w_goto ?_
          refine w_ret ?_
          have eu : ye_u H i.toNat (R i.toNat) = z1 := by unfold ye_u; split <;> omega
          have ed : ye_d H i.toNat (R i.toNat) = 0 := by unfold ye_d; rw [eu]; split <;> omega
          have es : ye_sp H i.toNat (R i.toNat) = 0 := by unfold ye_sp; rw [ed, eu]; split <;> omega
          have ef : ye_fl H i.toNat (R i.toNat) = (H (11 + 9 * i.toNat)) := by unfold ye_fl; rw [es, eu]; split <;> omega
          have eg : ye_gr H i.toNat (R i.toNat) = (R i.toNat 10) + 1 := by unfold ye_gr; rw [es, eu]; split <;> omega
          obtain ⟨w0, w1, w2, w3, w4, w5, w6, w7, w8, w9, w10⟩ := ye_dkw (H := H) (t := i.toNat) (r := R i.toNat)
          refine w_ret (h _ (hC16.cg (ye_10 rfl rfl rfl rfl rfl ?_ rfl ?_ rfl rfl) (ye_ru_c (ye_11 ?_ ?_ ?_ ?_ ?_ ?_ ?_ ?_ ?_ ?_ ?_))))
          · refine (rv_up_s).trans (Eq.trans (b := g 227 + (ye_u H i.toNat (R i.toNat) + ye_fl H i.toNat (R i.toNat))) ?_ rfl)
            first | (rw [eu, ef]; done) | (rw [eu, ef]; omega)
          · refine ((rv_up_n (by decide)).trans ((rv_up_n (by decide)))).trans (Eq.trans (b := g 229 + ye_sp H i.toNat (R i.toNat)) ?_ rfl)
            first | (rw [es]; done) | (rw [es]; omega)
          · refine ((rv_up_n (by decide)).trans ((rv_up_n (by decide)).trans (rv_up_s))).trans (Eq.trans ?_ w0.symm)
            first | (rw [eu, es, ef]; done) | (rw [eu, es, ef]; (try split) <;> omega)
          · exact ((rv_up_n (by decide)).trans ((rv_up_n (by decide)).trans ((rv_up_n (by decide)).trans ((rv_up_n (by decide)).trans ((rv_up_n (by decide))))))).trans w1.symm
          · refine ((rv_up_n (by decide)).trans ((rv_up_n (by decide)).trans ((rv_up_n (by decide)).trans (rv_up_s)))).trans (Eq.trans ?_ w2.symm)
            first | (rw [ed]; done) | (rw [ed]; (try split) <;> omega)
          · refine ((rv_up_n (by decide)).trans ((rv_up_n (by decide)).trans ((rv_up_n (by decide)).trans ((rv_up_n (by decide)).trans ((rv_up_n (by decide))))))).trans (Eq.trans ?_ w3.symm)
            first | (rw [ed]; done) | (rw [ed]; (try split) <;> omega)
          · exact ((rv_up_n (by decide)).trans ((rv_up_n (by decide)).trans ((rv_up_n (by decide)).trans ((rv_up_n (by decide)).trans ((rv_up_n (by decide))))))).trans w4.symm
          · exact ((rv_up_n (by decide)).trans ((rv_up_n (by decide)).trans ((rv_up_n (by decide)).trans ((rv_up_n (by decide)).trans ((rv_up_n (by decide))))))).trans w5.symm
          · exact ((rv_up_n (by decide)).trans ((rv_up_n (by decide)).trans ((rv_up_n (by decide)).trans ((rv_up_n (by decide)).trans ((rv_up_n (by decide))))))).trans w6.symm
          · refine ((rv_up_n (by decide)).trans ((rv_up_n (by decide)).trans ((rv_up_n (by decide)).trans ((rv_up_n (by decide)).trans ((rv_up_n (by decide))))))).trans (Eq.trans ?_ w7.symm)
            first | (rw [eu]; done) | (rw [eu]; (try split) <;> omega)
          · refine (rv_up_s).trans (Eq.trans ?_ w8.symm)
            first | (rw [eg]; done) | (rw [eg]; (try split) <;> omega)
          · exact ((rv_up_n (by decide)).trans ((rv_up_n (by decide)).trans ((rv_up_n (by decide)).trans ((rv_up_n (by decide)).trans ((rv_up_n (by decide))))))).trans w9.symm
          · refine ((rv_up_n (by decide)).trans (rv_up_s)).trans (Eq.trans ?_ w10.symm)
            first | (rw [eg]; done) | (rw [eg]; (try split) <;> omega)
          
    · exfalso; omega
  · skip
    refine w_aln rfl ?_
    refine w_ic ?_
    refine w_dup2 ?_
    refine w_iald (v := (R i.toNat 2)) (hL.gyr _ (by show i.toNat < 8; omega)) hL.hu.2.2.2.2.2.1 (by show (0 : Int) ≤ 2; omega) (by show 2 < ((11 : Nat) : Int); omega) ((hC4.rr (w := 2) (by show i.toNat < 8; omega) (by decide)).trans ((rv_up_n (by decide)))) ?_
    refine w_ic ?_
    refine w_add ⟨by show (-2147483648 : Int) ≤ (R i.toNat 2) + 1; omega, by show (R i.toNat 2) + 1 < (2147483648 : Int); omega⟩ ?_
    refine w_iast (hL.gyr _ (by show i.toNat < 8; omega)) hL.hu.2.2.2.2.2.1 (hL.hu.1 5 (by decide)) (by show (0 : Int) ≤ 2; omega) (by show 2 < ((11 : Nat) : Int); omega) ?_
    have hC17 := hC4.pr (w := (2 : Int).toNat) (v := (R i.toNat 2) + 1) hL (by show i.toNat < 8; omega)
    refine w_aln rfl ?_
    refine w_bp ?_
    refine w_dup2 ?_
    refine w_iald (v := (R i.toNat 7)) (hL.gyr _ (by show i.toNat < 8; omega)) hL.hu.2.2.2.2.2.1 (by show (0 : Int) ≤ 7; omega) (by show 7 < ((11 : Nat) : Int); omega) ((hC17.rr (w := 7) (by show i.toNat < 8; omega) (by decide)).trans ((rv_up_n (by decide)).trans ((rv_up_n (by decide))))) ?_
    refine w_ic ?_
    refine w_add ⟨by show (-2147483648 : Int) ≤ (R i.toNat 7) + 1; omega, by show (R i.toNat 7) + 1 < (2147483648 : Int); omega⟩ ?_
    refine w_iast (hL.gyr _ (by show i.toNat < 8; omega)) hL.hu.2.2.2.2.2.1 (hL.hu.1 5 (by decide)) (by show (0 : Int) ≤ 7; omega) (by show 7 < ((11 : Nat) : Int); omega) ?_
    have hC18 := hC17.pr (w := (7 : Int).toNat) (v := (R i.toNat 7) + 1) hL (by show i.toNat < 8; omega)
    refine w_goto ?_
    refine w_aln rfl ?_
    refine w_ic ?_
    refine w_iald (v := (R i.toNat 2) + 1) (hL.gyr _ (by show i.toNat < 8; omega)) hL.hu.2.2.2.2.2.1 (by show (0 : Int) ≤ 2; omega) (by show 2 < ((11 : Nat) : Int); omega) ((hC18.rr (w := 2) (by show i.toNat < 8; omega) (by decide)).trans ((rv_up_n (by decide)).trans (rv_up_s))) ?_
    refine w_aln rfl ?_
    refine w_gi hL.gpl rfl (by decide) rfl ((congrFun (hC18.oo hL hL.gpl (by decide)) 8).trans hL.n8) ?_
    refine w_cmlt (fun c19 => ?_) (fun c19 => ?_)
    · skip
      refine w_aln rfl ?_
      refine w_aln rfl ?_
      refine w_iln rfl ?_
      refine w_cv (st := []) rfl hL.gy hL.hu.2.1 (Nat.le_of_ble_eq_true rfl) (fun kk h => h) ⟨Nat.le_of_ble_eq_true rfl, ?_⟩
      show wz (d) mt_X10_waterField.2.2.2.2.1 _ mt_X10_waterField.2.2.2.2.1 [some (.inr (.inr (some y))), some (.inr (.inr (some pl))), some (.inl i), none, none] [] _ _ _ _
      refine w_aln rfl ?_
      refine w_gr hL.gy hL.hu.2.1 (by decide) rfl (hC18.rf hL.y6) ?_
      refine w_iln rfl ?_
      refine w_aald hL.goa hL.hu.2.2.2.2.2.2.1 (by show (0 : Int) ≤ i; omega) (by show i < ((8 : Nat) : Int); omega) (hC18.rf (hL.ot _ (by show i.toNat < 8; omega))) ?_
      refine w_asn ?_
      show wz _ _ _ _ [some (.inr (.inr (some y))), some (.inr (.inr (some pl))), some (.inl i), some (.inr (.inr (some (yr i.toNat)))), none] _ _ _ _ _
      refine w_aln rfl ?_
      refine w_gr hL.gpl rfl (by decide) rfl (hC18.rf hL.p1) ?_
      refine w_iln rfl ?_
      refine w_aald hL.gta rfl (by show (0 : Int) ≤ i; omega) (by show i < ((8 : Nat) : Int); omega) (hC18.rf (hL.tt _ (by show i.toNat < 8; omega))) ?_
      refine w_bp ?_
      refine w_iald (v := (H (11 + 9 * i.toNat))) (hL.gtr _ (by show i.toNat < 8; omega)) rfl (by show (0 : Int) ≤ 7; omega) (by show 7 < ((9 : Nat) : Int); omega) (((congrFun (hC18.oo hL (hL.gtr _ (by show i.toNat < 8; omega)) (by decide)) _).trans (hL.nt _ 7 (by show i.toNat < 8; omega) (by decide))).trans (congrArg H (show 4 + 9 * i.toNat + 7 = 11 + 9 * i.toNat by omega))) ?_
      refine w_is ?_
      show wz _ _ _ _ [some (.inr (.inr (some y))), some (.inr (.inr (some pl))), some (.inl i), some (.inr (.inr (some (yr i.toNat)))), some (.inl (H (11 + 9 * i.toNat)))] _ _ _ _ _
      refine w_il rfl ?_
      refine w_ifle (fun c20 => ?_) (fun c20 => ?_)
      · skip
        refine w_aln rfl ?_
        refine w_bp ?_
        refine w_ic ?_
        refine w_iast (hL.gyr _ (by show i.toNat < 8; omega)) hL.hu.2.2.2.2.2.1 (hL.hu.1 5 (by decide)) (by show (0 : Int) ≤ 10; omega) (by show 10 < ((11 : Nat) : Int); omega) ?_
        have hC21 := hC18.pr (w := (10 : Int).toNat) (v := 0) hL (by show i.toNat < 8; omega)
        refine w_ret ?_
        have eu : ye_u H i.toNat (R i.toNat) = z1 := by unfold ye_u; split <;> omega
        have ed : ye_d H i.toNat (R i.toNat) = (R i.toNat 2) + 1 := by unfold ye_d; rw [eu]; split <;> omega
        have es : ye_sp H i.toNat (R i.toNat) = 0 := by unfold ye_sp; rw [ed, eu]; split <;> omega
        have ef : ye_fl H i.toNat (R i.toNat) = 0 := by unfold ye_fl; rw [es, eu]; split <;> omega
        have eg : ye_gr H i.toNat (R i.toNat) = 0 := by unfold ye_gr; rw [es, eu]; split <;> omega
        obtain ⟨w0, w1, w2, w3, w4, w5, w6, w7, w8, w9, w10⟩ := ye_dkw (H := H) (t := i.toNat) (r := R i.toNat)
        refine w_ret (h _ (hC21.cg (ye_10 rfl rfl rfl rfl rfl ?_ rfl ?_ rfl rfl) (ye_ru_c (ye_11 ?_ ?_ ?_ ?_ ?_ ?_ ?_ ?_ ?_ ?_ ?_))))
        · refine (rv_up_s).trans (Eq.trans (b := g 227 + (ye_u H i.toNat (R i.toNat) + ye_fl H i.toNat (R i.toNat))) ?_ rfl)
          first | (rw [eu, ef]; done) | (rw [eu, ef]; omega)
        · refine ((rv_up_n (by decide))).trans (Eq.trans (b := g 229 + ye_sp H i.toNat (R i.toNat)) ?_ rfl)
          first | (rw [es]; done) | (rw [es]; omega)
        · refine ((rv_up_n (by decide)).trans ((rv_up_n (by decide)).trans ((rv_up_n (by decide)).trans (rv_up_s)))).trans (Eq.trans ?_ w0.symm)
          first | (rw [eu, es, ef]; done) | (rw [eu, es, ef]; (try split) <;> omega)
        · exact ((rv_up_n (by decide)).trans ((rv_up_n (by decide)).trans ((rv_up_n (by decide)).trans ((rv_up_n (by decide)))))).trans w1.symm
        · refine ((rv_up_n (by decide)).trans ((rv_up_n (by decide)).trans (rv_up_s))).trans (Eq.trans ?_ w2.symm)
          first | (rw [ed]; done) | (rw [ed]; (try split) <;> omega)
        · refine ((rv_up_n (by decide)).trans ((rv_up_n (by decide)).trans ((rv_up_n (by decide)).trans ((rv_up_n (by decide)))))).trans (Eq.trans ?_ w3.symm)
          first | (rw [ed]; done) | (rw [ed]; (try split) <;> omega)
        · exact ((rv_up_n (by decide)).trans ((rv_up_n (by decide)).trans ((rv_up_n (by decide)).trans ((rv_up_n (by decide)))))).trans w4.symm
        · exact ((rv_up_n (by decide)).trans ((rv_up_n (by decide)).trans ((rv_up_n (by decide)).trans ((rv_up_n (by decide)))))).trans w5.symm
        · exact ((rv_up_n (by decide)).trans ((rv_up_n (by decide)).trans ((rv_up_n (by decide)).trans ((rv_up_n (by decide)))))).trans w6.symm
        · refine ((rv_up_n (by decide)).trans (rv_up_s)).trans (Eq.trans ?_ w7.symm)
          first | (rw [eu]; done) | (rw [eu]; (try split) <;> omega)
        · refine ((rv_up_n (by decide)).trans ((rv_up_n (by decide)).trans ((rv_up_n (by decide)).trans ((rv_up_n (by decide)))))).trans (Eq.trans ?_ w8.symm)
          first | (rw [eg]; done) | (rw [eg]; (try split) <;> omega)
        · exact ((rv_up_n (by decide)).trans ((rv_up_n (by decide)).trans ((rv_up_n (by decide)).trans ((rv_up_n (by decide)))))).trans w9.symm
        · refine (rv_up_s).trans (Eq.trans ?_ w10.symm)
          first | (rw [eg]; done) | (rw [eg]; (try split) <;> omega)
        
      · skip
        refine w_aln rfl ?_
        refine w_ic ?_
        refine w_iald (v := (R i.toNat 0) - z1) (hL.gyr _ (by show i.toNat < 8; omega)) hL.hu.2.2.2.2.2.1 (by show (0 : Int) ≤ 0; omega) (by show 0 < ((11 : Nat) : Int); omega) ((hC18.rr (w := 0) (by show i.toNat < 8; omega) (by decide)).trans ((rv_up_n (by decide)).trans ((rv_up_n (by decide)).trans (rv_up_s)))) ?_
        refine w_il rfl ?_
        refine w_cmlt (fun c22 => ?_) (fun c22 => ?_)
        · skip
          refine w_aln rfl ?_
          refine w_bp ?_
          refine w_ic ?_
          refine w_iast (hL.gyr _ (by show i.toNat < 8; omega)) hL.hu.2.2.2.2.2.1 (hL.hu.1 5 (by decide)) (by show (0 : Int) ≤ 10; omega) (by show 10 < ((11 : Nat) : Int); omega) ?_
          have hC23 := hC18.pr (w := (10 : Int).toNat) (v := 0) hL (by show i.toNat < 8; omega)
          refine w_ret ?_
          have eu : ye_u H i.toNat (R i.toNat) = z1 := by unfold ye_u; split <;> omega
          have ed : ye_d H i.toNat (R i.toNat) = (R i.toNat 2) + 1 := by unfold ye_d; rw [eu]; split <;> omega
          have es : ye_sp H i.toNat (R i.toNat) = 0 := by unfold ye_sp; rw [ed, eu]; split <;> omega
          have ef : ye_fl H i.toNat (R i.toNat) = 0 := by unfold ye_fl; rw [es, eu]; split <;> omega
          have eg : ye_gr H i.toNat (R i.toNat) = 0 := by unfold ye_gr; rw [es, eu]; split <;> omega
          obtain ⟨w0, w1, w2, w3, w4, w5, w6, w7, w8, w9, w10⟩ := ye_dkw (H := H) (t := i.toNat) (r := R i.toNat)
          refine w_ret (h _ (hC23.cg (ye_10 rfl rfl rfl rfl rfl ?_ rfl ?_ rfl rfl) (ye_ru_c (ye_11 ?_ ?_ ?_ ?_ ?_ ?_ ?_ ?_ ?_ ?_ ?_))))
          · refine (rv_up_s).trans (Eq.trans (b := g 227 + (ye_u H i.toNat (R i.toNat) + ye_fl H i.toNat (R i.toNat))) ?_ rfl)
            first | (rw [eu, ef]; done) | (rw [eu, ef]; omega)
          · refine ((rv_up_n (by decide))).trans (Eq.trans (b := g 229 + ye_sp H i.toNat (R i.toNat)) ?_ rfl)
            first | (rw [es]; done) | (rw [es]; omega)
          · refine ((rv_up_n (by decide)).trans ((rv_up_n (by decide)).trans ((rv_up_n (by decide)).trans (rv_up_s)))).trans (Eq.trans ?_ w0.symm)
            first | (rw [eu, es, ef]; done) | (rw [eu, es, ef]; (try split) <;> omega)
          · exact ((rv_up_n (by decide)).trans ((rv_up_n (by decide)).trans ((rv_up_n (by decide)).trans ((rv_up_n (by decide)))))).trans w1.symm
          · refine ((rv_up_n (by decide)).trans ((rv_up_n (by decide)).trans (rv_up_s))).trans (Eq.trans ?_ w2.symm)
            first | (rw [ed]; done) | (rw [ed]; (try split) <;> omega)
          · refine ((rv_up_n (by decide)).trans ((rv_up_n (by decide)).trans ((rv_up_n (by decide)).trans ((rv_up_n (by decide)))))).trans (Eq.trans ?_ w3.symm)
            first | (rw [ed]; done) | (rw [ed]; (try split) <;> omega)
          · exact ((rv_up_n (by decide)).trans ((rv_up_n (by decide)).trans ((rv_up_n (by decide)).trans ((rv_up_n (by decide)))))).trans w4.symm
          · exact ((rv_up_n (by decide)).trans ((rv_up_n (by decide)).trans ((rv_up_n (by decide)).trans ((rv_up_n (by decide)))))).trans w5.symm
          · exact ((rv_up_n (by decide)).trans ((rv_up_n (by decide)).trans ((rv_up_n (by decide)).trans ((rv_up_n (by decide)))))).trans w6.symm
          · refine ((rv_up_n (by decide)).trans (rv_up_s)).trans (Eq.trans ?_ w7.symm)
            first | (rw [eu]; done) | (rw [eu]; (try split) <;> omega)
          · refine ((rv_up_n (by decide)).trans ((rv_up_n (by decide)).trans ((rv_up_n (by decide)).trans ((rv_up_n (by decide)))))).trans (Eq.trans ?_ w8.symm)
            first | (rw [eg]; done) | (rw [eg]; (try split) <;> omega)
          · exact ((rv_up_n (by decide)).trans ((rv_up_n (by decide)).trans ((rv_up_n (by decide)).trans ((rv_up_n (by decide)))))).trans w9.symm
          · refine (rv_up_s).trans (Eq.trans ?_ w10.symm)
            first | (rw [eg]; done) | (rw [eg]; (try split) <;> omega)
          
        · exfalso; omega
    · skip
      refine w_aln rfl ?_
      refine w_ic ?_
      refine w_ic ?_
      refine w_iast (hL.gyr _ (by show i.toNat < 8; omega)) hL.hu.2.2.2.2.2.1 (hL.hu.1 5 (by decide)) (by show (0 : Int) ≤ 3; omega) (by show 3 < ((11 : Nat) : Int); omega) ?_
      have hC24 := hC18.pr (w := (3 : Int).toNat) (v := 1) hL (by show i.toNat < 8; omega)
      refine w_aln rfl ?_
      refine w_dupr ?_
      refine w_gi hL.gy hL.hu.2.1 (by decide) rfl ((hC24.f (j := 229) (by decide) (by decide) rfl).trans ((rv_up_n (by decide)))) ?_
      refine w_aln rfl ?_
      refine w_ic ?_
      refine w_iald (v := (R i.toNat 0) - z1) (hL.gyr _ (by show i.toNat < 8; omega)) hL.hu.2.2.2.2.2.1 (by show (0 : Int) ≤ 0; omega) (by show 0 < ((11 : Nat) : Int); omega) ((hC24.rr (w := 0) (by show i.toNat < 8; omega) (by decide)).trans ((rv_up_n (by decide)).trans ((rv_up_n (by decide)).trans ((rv_up_n (by decide)).trans (rv_up_s))))) ?_
      refine w_add ⟨by show (-2147483648 : Int) ≤ (g 229) + ((R i.toNat 0) - z1); omega, by show (g 229) + ((R i.toNat 0) - z1) < (2147483648 : Int); omega⟩ ?_
      refine w_pi hL.gy hL.hu.2.1 (hL.hu.1 0 (by decide)) rfl (fun q => by cases q) ?_
      have hC25 := hC24.pf (j := 229) (v := (g 229) + ((R i.toNat 0) - z1)) hL (by decide) (by decide) rfl
      refine w_aln rfl ?_
      refine w_ic ?_
      refine w_ic ?_
      refine w_iast (hL.gyr _ (by show i.toNat < 8; omega)) hL.hu.2.2.2.2.2.1 (hL.hu.1 5 (by decide)) (by show (0 : Int) ≤ 0; omega) (by show 0 < ((11 : Nat) : Int); omega) ?_
      have hC26 := hC25.pr (w := (0 : Int).toNat) (v := 0) hL (by show i.toNat < 8; omega)
      refine w_aln rfl ?_
      refine w_aln rfl ?_
      refine w_iln rfl ?_
      refine w_cv (st := []) rfl hL.gy hL.hu.2.1 (Nat.le_of_ble_eq_true rfl) (fun kk h => h) ⟨Nat.le_of_ble_eq_true rfl, ?_⟩
      show wz (d) mt_X10_waterField.2.2.2.2.1 _ mt_X10_waterField.2.2.2.2.1 [some (.inr (.inr (some y))), some (.inr (.inr (some pl))), some (.inl i), none, none] [] _ _ _ _
      refine w_aln rfl ?_
      refine w_gr hL.gy hL.hu.2.1 (by decide) rfl (hC26.rf hL.y6) ?_
      refine w_iln rfl ?_
      refine w_aald hL.goa hL.hu.2.2.2.2.2.2.1 (by show (0 : Int) ≤ i; omega) (by show i < ((8 : Nat) : Int); omega) (hC26.rf (hL.ot _ (by show i.toNat < 8; omega))) ?_
      refine w_asn ?_
      show wz _ _ _ _ [some (.inr (.inr (some y))), some (.inr (.inr (some pl))), some (.inl i), some (.inr (.inr (some (yr i.toNat)))), none] _ _ _ _ _
      refine w_aln rfl ?_
      refine w_gr hL.gpl rfl (by decide) rfl (hC26.rf hL.p1) ?_
      refine w_iln rfl ?_
      refine w_aald hL.gta rfl (by show (0 : Int) ≤ i; omega) (by show i < ((8 : Nat) : Int); omega) (hC26.rf (hL.tt _ (by show i.toNat < 8; omega))) ?_
      refine w_bp ?_
      refine w_iald (v := (H (11 + 9 * i.toNat))) (hL.gtr _ (by show i.toNat < 8; omega)) rfl (by show (0 : Int) ≤ 7; omega) (by show 7 < ((9 : Nat) : Int); omega) (((congrFun (hC26.oo hL (hL.gtr _ (by show i.toNat < 8; omega)) (by decide)) _).trans (hL.nt _ 7 (by show i.toNat < 8; omega) (by decide))).trans (congrArg H (show 4 + 9 * i.toNat + 7 = 11 + 9 * i.toNat by omega))) ?_
      refine w_is ?_
      show wz _ _ _ _ [some (.inr (.inr (some y))), some (.inr (.inr (some pl))), some (.inl i), some (.inr (.inr (some (yr i.toNat)))), some (.inl (H (11 + 9 * i.toNat)))] _ _ _ _ _
      refine w_il rfl ?_
      refine w_ifle (fun c27 => ?_) (fun c27 => ?_)
      · skip
        refine w_aln rfl ?_
        refine w_bp ?_
        refine w_ic ?_
        refine w_iast (hL.gyr _ (by show i.toNat < 8; omega)) hL.hu.2.2.2.2.2.1 (hL.hu.1 5 (by decide)) (by show (0 : Int) ≤ 10; omega) (by show 10 < ((11 : Nat) : Int); omega) ?_
        have hC28 := hC26.pr (w := (10 : Int).toNat) (v := 0) hL (by show i.toNat < 8; omega)
        refine w_ret ?_
        have eu : ye_u H i.toNat (R i.toNat) = z1 := by unfold ye_u; split <;> omega
        have ed : ye_d H i.toNat (R i.toNat) = (R i.toNat 2) + 1 := by unfold ye_d; rw [eu]; split <;> omega
        have es : ye_sp H i.toNat (R i.toNat) = R i.toNat 0 - z1 := by unfold ye_sp; rw [ed, eu]; split <;> omega
        have ef : ye_fl H i.toNat (R i.toNat) = 0 := by unfold ye_fl; rw [es, eu]; split <;> omega
        have eg : ye_gr H i.toNat (R i.toNat) = 0 := by unfold ye_gr; rw [es, eu]; split <;> omega
        obtain ⟨w0, w1, w2, w3, w4, w5, w6, w7, w8, w9, w10⟩ := ye_dkw (H := H) (t := i.toNat) (r := R i.toNat)
        refine w_ret (h _ (hC28.cg (ye_10 rfl rfl rfl rfl rfl ?_ rfl ?_ rfl rfl) (ye_ru_c (ye_11 ?_ ?_ ?_ ?_ ?_ ?_ ?_ ?_ ?_ ?_ ?_))))
        · refine ((rv_up_n (by decide)).trans (rv_up_s)).trans (Eq.trans (b := g 227 + (ye_u H i.toNat (R i.toNat) + ye_fl H i.toNat (R i.toNat))) ?_ rfl)
          first | (rw [eu, ef]; done) | (rw [eu, ef]; omega)
        · refine (rv_up_s).trans (Eq.trans (b := g 229 + ye_sp H i.toNat (R i.toNat)) ?_ rfl)
          first | (rw [es]; done) | (rw [es]; omega)
        · refine ((rv_up_n (by decide)).trans (rv_up_s)).trans (Eq.trans ?_ w0.symm)
          first | (rw [eu, es, ef]; done) | (rw [eu, es, ef]; (try split) <;> omega)
        · exact ((rv_up_n (by decide)).trans ((rv_up_n (by decide)).trans ((rv_up_n (by decide)).trans ((rv_up_n (by decide)).trans ((rv_up_n (by decide)).trans ((rv_up_n (by decide)))))))).trans w1.symm
        · refine ((rv_up_n (by decide)).trans ((rv_up_n (by decide)).trans ((rv_up_n (by decide)).trans ((rv_up_n (by decide)).trans (rv_up_s))))).trans (Eq.trans ?_ w2.symm)
          first | (rw [ed]; done) | (rw [ed]; (try split) <;> omega)
        · refine ((rv_up_n (by decide)).trans ((rv_up_n (by decide)).trans (rv_up_s))).trans (Eq.trans ?_ w3.symm)
          first | (rw [ed]; done) | (rw [ed]; (try split) <;> omega)
        · exact ((rv_up_n (by decide)).trans ((rv_up_n (by decide)).trans ((rv_up_n (by decide)).trans ((rv_up_n (by decide)).trans ((rv_up_n (by decide)).trans ((rv_up_n (by decide)))))))).trans w4.symm
        · exact ((rv_up_n (by decide)).trans ((rv_up_n (by decide)).trans ((rv_up_n (by decide)).trans ((rv_up_n (by decide)).trans ((rv_up_n (by decide)).trans ((rv_up_n (by decide)))))))).trans w5.symm
        · exact ((rv_up_n (by decide)).trans ((rv_up_n (by decide)).trans ((rv_up_n (by decide)).trans ((rv_up_n (by decide)).trans ((rv_up_n (by decide)).trans ((rv_up_n (by decide)))))))).trans w6.symm
        · refine ((rv_up_n (by decide)).trans ((rv_up_n (by decide)).trans ((rv_up_n (by decide)).trans (rv_up_s)))).trans (Eq.trans ?_ w7.symm)
          first | (rw [eu]; done) | (rw [eu]; (try split) <;> omega)
        · refine ((rv_up_n (by decide)).trans ((rv_up_n (by decide)).trans ((rv_up_n (by decide)).trans ((rv_up_n (by decide)).trans ((rv_up_n (by decide)).trans ((rv_up_n (by decide)))))))).trans (Eq.trans ?_ w8.symm)
          first | (rw [eg]; done) | (rw [eg]; (try split) <;> omega)
        · exact ((rv_up_n (by decide)).trans ((rv_up_n (by decide)).trans ((rv_up_n (by decide)).trans ((rv_up_n (by decide)).trans ((rv_up_n (by decide)).trans ((rv_up_n (by decide)))))))).trans w9.symm
        · refine (rv_up_s).trans (Eq.trans ?_ w10.symm)
          first | (rw [eg]; done) | (rw [eg]; (try split) <;> omega)
        
      · skip
        refine w_aln rfl ?_
        refine w_ic ?_
        refine w_iald (v := 0) (hL.gyr _ (by show i.toNat < 8; omega)) hL.hu.2.2.2.2.2.1 (by show (0 : Int) ≤ 0; omega) (by show 0 < ((11 : Nat) : Int); omega) ((hC26.rr (w := 0) (by show i.toNat < 8; omega) (by decide)).trans (rv_up_s)) ?_
        refine w_il rfl ?_
        refine w_cmlt (fun c29 => ?_) (fun c29 => ?_)
        · skip
          refine w_aln rfl ?_
          refine w_bp ?_
          refine w_ic ?_
          refine w_iast (hL.gyr _ (by show i.toNat < 8; omega)) hL.hu.2.2.2.2.2.1 (hL.hu.1 5 (by decide)) (by show (0 : Int) ≤ 10; omega) (by show 10 < ((11 : Nat) : Int); omega) ?_
          have hC30 := hC26.pr (w := (10 : Int).toNat) (v := 0) hL (by show i.toNat < 8; omega)
          refine w_ret ?_
          have eu : ye_u H i.toNat (R i.toNat) = z1 := by unfold ye_u; split <;> omega
          have ed : ye_d H i.toNat (R i.toNat) = (R i.toNat 2) + 1 := by unfold ye_d; rw [eu]; split <;> omega
          have es : ye_sp H i.toNat (R i.toNat) = R i.toNat 0 - z1 := by unfold ye_sp; rw [ed, eu]; split <;> omega
          have ef : ye_fl H i.toNat (R i.toNat) = 0 := by unfold ye_fl; rw [es, eu]; split <;> omega
          have eg : ye_gr H i.toNat (R i.toNat) = 0 := by unfold ye_gr; rw [es, eu]; split <;> omega
          obtain ⟨w0, w1, w2, w3, w4, w5, w6, w7, w8, w9, w10⟩ := ye_dkw (H := H) (t := i.toNat) (r := R i.toNat)
          refine w_ret (h _ (hC30.cg (ye_10 rfl rfl rfl rfl rfl ?_ rfl ?_ rfl rfl) (ye_ru_c (ye_11 ?_ ?_ ?_ ?_ ?_ ?_ ?_ ?_ ?_ ?_ ?_))))
          · refine ((rv_up_n (by decide)).trans (rv_up_s)).trans (Eq.trans (b := g 227 + (ye_u H i.toNat (R i.toNat) + ye_fl H i.toNat (R i.toNat))) ?_ rfl)
            first | (rw [eu, ef]; done) | (rw [eu, ef]; omega)
          · refine (rv_up_s).trans (Eq.trans (b := g 229 + ye_sp H i.toNat (R i.toNat)) ?_ rfl)
            first | (rw [es]; done) | (rw [es]; omega)
          · refine ((rv_up_n (by decide)).trans (rv_up_s)).trans (Eq.trans ?_ w0.symm)
            first | (rw [eu, es, ef]; done) | (rw [eu, es, ef]; (try split) <;> omega)
          · exact ((rv_up_n (by decide)).trans ((rv_up_n (by decide)).trans ((rv_up_n (by decide)).trans ((rv_up_n (by decide)).trans ((rv_up_n (by decide)).trans ((rv_up_n (by decide)))))))).trans w1.symm
          · refine ((rv_up_n (by decide)).trans ((rv_up_n (by decide)).trans ((rv_up_n (by decide)).trans ((rv_up_n (by decide)).trans (rv_up_s))))).trans (Eq.trans ?_ w2.symm)
            first | (rw [ed]; done) | (rw [ed]; (try split) <;> omega)
          · refine ((rv_up_n (by decide)).trans ((rv_up_n (by decide)).trans (rv_up_s))).trans (Eq.trans ?_ w3.symm)
            first | (rw [ed]; done) | (rw [ed]; (try split) <;> omega)
          · exact ((rv_up_n (by decide)).trans ((rv_up_n (by decide)).trans ((rv_up_n (by decide)).trans ((rv_up_n (by decide)).trans ((rv_up_n (by decide)).trans ((rv_up_n (by decide)))))))).trans w4.symm
          · exact ((rv_up_n (by decide)).trans ((rv_up_n (by decide)).trans ((rv_up_n (by decide)).trans ((rv_up_n (by decide)).trans ((rv_up_n (by decide)).trans ((rv_up_n (by decide)))))))).trans w5.symm
          · exact ((rv_up_n (by decide)).trans ((rv_up_n (by decide)).trans ((rv_up_n (by decide)).trans ((rv_up_n (by decide)).trans ((rv_up_n (by decide)).trans ((rv_up_n (by decide)))))))).trans w6.symm
          · refine ((rv_up_n (by decide)).trans ((rv_up_n (by decide)).trans ((rv_up_n (by decide)).trans (rv_up_s)))).trans (Eq.trans ?_ w7.symm)
            first | (rw [eu]; done) | (rw [eu]; (try split) <;> omega)
          · refine ((rv_up_n (by decide)).trans ((rv_up_n (by decide)).trans ((rv_up_n (by decide)).trans ((rv_up_n (by decide)).trans ((rv_up_n (by decide)).trans ((rv_up_n (by decide)))))))).trans (Eq.trans ?_ w8.symm)
            first | (rw [eg]; done) | (rw [eg]; (try split) <;> omega)
          · exact ((rv_up_n (by decide)).trans ((rv_up_n (by decide)).trans ((rv_up_n (by decide)).trans ((rv_up_n (by decide)).trans ((rv_up_n (by decide)).trans ((rv_up_n (by decide)))))))).trans w9.symm
          · refine (rv_up_s).trans (Eq.trans ?_ w10.symm)
            first | (rw [eg]; done) | (rw [eg]; (try split) <;> omega)
          
        · exfalso; omega
end
section
/-! ===== what is kept of a YEAR's numbers, MONTH by MONTH ===== -/
def yd_ok (H : Nat → Int) : Prop := ∀ j, j < 12 → 0 ≤ H (184 + 3 * j) ∧ (H (184 + 3 * j) ≤ H 0 ∨ H (184 + 3 * j) = 9) ∧ 0 ≤ H (185 + 3 * j) ∧ H (185 + 3 * j) ≤ H 0 ∧ (0 < H (185 + 3 * j) → 0 < H (184 + 3 * j) ∧ H (184 + 3 * j) ≤ H 0 ∧ H (184 + 3 * j) ≠ H (185 + 3 * j)) ∧ 0 ≤ H (186 + 3 * j) ∧ H (186 + 3 * j) ≤ 999
/-- the PLAIN's numbers and the CONTRACTS' -/
def ye_H (H : Nat → Int) : Prop := (0 ≤ H 0 ∧ H 0 ≤ 8) ∧ (0 ≤ H 1 ∧ H 1 ≤ 99) ∧ (0 ≤ H 2 ∧ H 2 ≤ 999) ∧ (1 ≤ H 3 ∧ H 3 ≤ 12) ∧ (∀ j, 4 ≤ j → j < 76 → 0 ≤ H j ∧ H j ≤ 999) ∧ (∀ j, j < 12 → 0 ≤ H (76 + j) ∧ H (76 + j) ≤ 999) ∧ (∀ t j, t < 8 → j < 12 → 0 ≤ H (88 + 12 * t + j) ∧ H (88 + 12 * t + j) ≤ 999) ∧ yd_ok H
theorem ye_H.of {H : Nat → Int} (h : rv_r6 H 0) (hd : yd_ok H) : ye_H H := by
  obtain ⟨⟨a1, a2, a3, a4, a5, a6⟩, b, -⟩ := id h
  refine ⟨a1, ?_, ?_, ?_, fun j j1 j2 => ?_, fun j hj => ?_, fun t j ht hj => ?_, hd⟩
  rotate_left 3
  · have q := a5 ((j - 4) / 9) ((j - 4) % 9) (by omega) (by omega)
    rw [show 0 + (4 + 9 * ((j - 4) / 9) + (j - 4) % 9) = j by omega] at q
    exact ⟨q.1, q.2.1⟩
  · have q := a6 j hj
    rw [Nat.zero_add] at q; exact q
  · have q := b t j ht hj
    rw [Nat.zero_add] at q; exact ⟨q.1, q.2.1⟩
  · rw [Nat.zero_add] at a2; exact a2
  · rw [Nat.zero_add] at a3; exact a3
  · rw [Nat.zero_add] at a4; exact a4
/-- a TOWN's row behind m MONTHS -/
def ye_rk (H : Nat → Int) (m : Int) (t : Nat) (r : Nat → Int) : Prop := (0 ≤ r 0 ∧ r 0 ≤ H (5 + 9 * t)) ∧ (0 ≤ r 1 ∧ r 1 ≤ 1000 + 13000 * m) ∧ (0 ≤ r 2 ∧ r 2 ≤ m) ∧ (r 3 = 0 ∨ (r 3 = 1 ∧ r 0 = 0)) ∧ (0 ≤ r 4 ∧ r 4 ≤ m) ∧ (0 ≤ r 5 ∧ r 5 ≤ 1000 * m) ∧ (0 ≤ r 6 ∧ r 6 ≤ 1000 * m) ∧ (0 ≤ r 7 ∧ r 7 ≤ m) ∧ (0 ≤ r 8 ∧ r 8 ≤ m) ∧ (0 ≤ r 9 ∧ r 9 ≤ 12000 ∧ (m < 12 → r 9 = 0)) ∧ (0 ≤ r 10 ∧ r 10 ≤ r 8)
def ye_ok (H g A B C : Nat → Int) (R : Nat → Nat → Int) : Prop := (0 ≤ g 222 ∧ g 222 ≤ 12) ∧ (g 223 = 8 ∨ (0 ≤ g 223 ∧ g 223 < H 0)) ∧ (-10000 * g 222 ≤ g 224 ∧ g 224 ≤ 10000 * g 222) ∧ (0 ≤ g 225 ∧ g 225 ≤ 999) ∧ (0 ≤ g 226 ∧ g 226 ≤ 2000 * g 222) ∧ (0 ≤ g 227 ∧ g 227 ≤ 20000 * g 222) ∧ (0 ≤ g 228 ∧ g 228 ≤ 4000 * g 222) ∧ (0 ≤ g 229 ∧ g 229 ≤ 20000 * g 222) ∧ (0 ≤ g 230 ∧ g 230 ≤ g 222) ∧ (0 ≤ g 231 ∧ g 231 ≤ 10000 * g 222) ∧ (∀ t, t < 8 → ye_rk H (g 222) t (R t)) ∧ (∀ t : Nat, t < 8 → H 0 ≤ (t : Int) → ∀ w, w < 11 → R t w = 0) ∧ (∀ j : Nat, (j : Int) < g 222 → (A j = 8 ∧ B j = -1 ∧ C j = 0) ∨ ((0 ≤ A j ∧ A j < H 0) ∧ (B j = -1 ∨ (0 ≤ B j ∧ B j < H 0)) ∧ 0 ≤ C j ∧ C j ≤ 999))
section YB
variable {H g A B C : Nat → Int} {R : Nat → Nat → Int} {m : Int} {L O P W x : Int} {t k : Nat} {r : Nat → Int}
/-- to whom a MONTH may be let -/
def ye_lt (H : Nat → Int) (R : Nat → Nat → Int) (L O P : Int) : Prop := (L = 8 ∧ O = -1 ∧ P = 0) ∨ ((0 ≤ L ∧ L < H 0) ∧ (0 ≤ P ∧ P ≤ 999) ∧ R L.toNat 3 = 0 ∧ ((O = -1 ∧ P ≤ R L.toNat 1) ∨ ((0 ≤ O ∧ O < H 0) ∧ O ≠ L ∧ R O.toNat 3 = 0 ∧ P - P / 2 ≤ R L.toNat 1 ∧ P / 2 ≤ R O.toNat 1)))
theorem ye_le_b (hH : ye_H H) {m : Nat} (hm : m < 12) : ye_lt H R (ye_le H R m).1 (ye_le H R m).2.1 (ye_le H R m).2.2 := by
  obtain ⟨h0, -, -, -, -, -, hB, hd⟩ := hH
  obtain ⟨d1, d2, d3, d4, d5, d6, d7⟩ := hd m hm
  by_cases c : 0 < H (184 + 3 * m)
  · by_cases n : ye_no H R m
    · rw [ye_le1 c n]; exact Or.inl ⟨rfl, rfl, rfl⟩
    · rw [ye_le2 c n]
      have n1 : ¬ H (184 + 3 * m) = 9 := fun q => n (Or.inl q)
      have n2 : ye_cp R (H (184 + 3 * m) - 1).toNat (ye_a (H (186 + 3 * m)) (H (185 + 3 * m) - 1)) := Decidable.byContradiction (fun q => n (Or.inr (Or.inl q)))
      refine Or.inr ⟨by show 0 ≤ H (184 + 3 * m) - 1 ∧ H (184 + 3 * m) - 1 < H 0; omega, ⟨d6, d7⟩, n2.1, ?_⟩
      have n3 := n2.2
      unfold ye_a at n3
      by_cases c2 : 0 < H (185 + 3 * m)
      · have n4 : ye_cp R (H (185 + 3 * m) - 1).toNat (H (186 + 3 * m) / 2) := Decidable.byContradiction (fun q => n (Or.inr (Or.inr ⟨c2, q⟩)))
        rw [if_neg (by omega)] at n3
        have := d5 c2
        exact Or.inr ⟨by show 0 ≤ H (185 + 3 * m) - 1 ∧ H (185 + 3 * m) - 1 < H 0; omega, by show H (185 + 3 * m) - 1 ≠ H (184 + 3 * m) - 1; omega, n4.1, n3, n4.2⟩
      · rw [if_pos (by omega)] at n3
        exact Or.inl ⟨by show H (185 + 3 * m) - 1 = -1; omega, n3⟩
  · rw [ye_le3 c]
    have b := ye_bb_b (R := R) (m := m) (fun t ht => hB t m ht hm) (H 0).toNat (by omega)
    rcases b.2 with ⟨b1, b2⟩ | ⟨b1, b2, b3⟩
    · exact Or.inl ⟨b1, rfl, b2⟩
    · exact Or.inr ⟨⟨b1, by omega⟩, b.1, b3.1, Or.inl ⟨rfl, b3.2⟩⟩
theorem ye_pr_w {z : Int} : ye_pr r z 0 = r 0 ∧ ye_pr r z 1 = r 1 - z ∧ ye_pr r z 2 = r 2 ∧ ye_pr r z 3 = r 3 ∧ ye_pr r z 4 = r 4 ∧ ye_pr r z 5 = r 5 + z ∧ ye_pr r z 6 = r 6 ∧ ye_pr r z 7 = r 7 ∧ ye_pr r z 8 = r 8 ∧ ye_pr r z 9 = r 9 ∧ ye_pr r z 10 = r 10 := ⟨rfl, rfl, rfl, rfl, rfl, rfl, rfl, rfl, rfl, rfl, rfl⟩
/-- a row while a MONTH goes on: paid not yet poured; what is let has no SHORE -/
def ye_r1 (H : Nat → Int) (m : Int) (t : Nat) (a : Prop) (r : Nat → Int) : Prop := (0 ≤ r 0 ∧ r 0 ≤ H (5 + 9 * t)) ∧ (0 ≤ r 1 ∧ r 1 ≤ 1000 + 13000 * m) ∧ (0 ≤ r 2 ∧ r 2 ≤ m) ∧ (r 3 = 0 ∨ (¬ a ∧ r 3 = 1 ∧ r 0 = 0)) ∧ (0 ≤ r 4 ∧ r 4 ≤ m) ∧ (0 ≤ r 5 ∧ r 5 ≤ 1000 * m + 999) ∧ (0 ≤ r 6 ∧ r 6 ≤ 1000 * m) ∧ (0 ≤ r 7 ∧ r 7 ≤ m) ∧ (0 ≤ r 8 ∧ r 8 ≤ m) ∧ (0 ≤ r 9 ∧ r 9 ≤ 12000 ∧ (m < 12 → r 9 = 0)) ∧ (0 ≤ r 10 ∧ r 10 ≤ r 8)
theorem ye_R1_b (hR : ∀ t, t < 8 → ye_rk H m t (R t)) (h0 : 0 ≤ H 0 ∧ H 0 ≤ 8) (hl : ye_lt H R L O P) : ∀ t : Nat, t < 8 → ye_r1 H m t ((t : Int) = L ∨ (t : Int) = O) (ye_R1 R L O P t) := fun t ht => by
  have keep : ¬ ((t : Int) = L ∨ (t : Int) = O) → ye_r1 H m t ((t : Int) = L ∨ (t : Int) = O) (R t) := fun n => by
    obtain ⟨a0, a1, a2, a3, a4, a5, a6, a7, a8, a9, a10⟩ := hR t ht
    exact ⟨a0, a1, a2, a3.imp id (fun q => ⟨n, q⟩), a4, ⟨a5.1, by omega⟩, a6, a7, a8, a9, a10⟩
  have pay : ∀ z : Int, 0 ≤ z → z ≤ 999 → R t 3 = 0 → z ≤ R t 1 → ye_r1 H m t ((t : Int) = L ∨ (t : Int) = O) (ye_pr (R t) z) := fun z z0 z9 s0 zp => by
    obtain ⟨a0, a1, a2, a3, a4, a5, a6, a7, a8, a9, a10⟩ := hR t ht
    obtain ⟨w0, w1, w2, w3, w4, w5, w6, w7, w8, w9, w10⟩ := ye_pr_w (r := R t) (z := z)
    unfold ye_r1
    rw [w0, w1, w2, w3, w4, w5, w6, w7, w8, w9, w10]
    exact ⟨a0, by omega, a2, Or.inl s0, a4, by omega, a6, a7, a8, a9, a10⟩
  rcases hl with ⟨rfl, rfl, rfl⟩ | ⟨⟨l0, l1⟩, ⟨p0, p9⟩, ls, ho⟩
  · unfold ye_R1; rw [if_pos rfl]; exact keep (by omega)
  · rcases ho with ⟨rfl, lp⟩ | ⟨⟨o0, o1⟩, on, os, lp, op⟩
    · unfold ye_R1; rw [if_neg (by omega), if_pos (by decide)]
      unfold ye_p1
      by_cases e : t = L.toNat
      · subst e; rw [ye_ru_s]; exact pay P p0 p9 ls lp
      · rw [ye_ru_n e]; exact keep (by omega)
    · unfold ye_R1; rw [if_neg (by omega), if_neg (by omega)]
      unfold ye_p1
      by_cases e : t = O.toNat
      · subst e; rw [ye_ru_s, ye_ru_n (by omega)]; exact pay (P / 2) (by omega) (by omega) os op
      · rw [ye_ru_n e]
        by_cases e2 : t = L.toNat
        · subst e2; rw [ye_ru_s]; exact pay (P - P / 2) (by omega) (by omega) ls lp
        · rw [ye_ru_n e2]; exact keep (by omega)
theorem ye_se_b (hT : ∀ j, 4 ≤ j → j < 76 → 0 ≤ H j ∧ H j ≤ 999) {t z : Int} (t0 : 0 ≤ t) (t7 : t ≤ 7) (z0 : 0 ≤ z) : 0 ≤ ye_se H t z ∧ ye_se H t z ≤ z := by
  have q := hT (4 + 9 * t.toNat) (by omega) (by omega)
  unfold ye_se; split <;> omega
theorem ye_in_b (hT : ∀ j, 4 ≤ j → j < 76 → 0 ≤ H j ∧ H j ≤ 999) {t z : Int} (t0 : 0 ≤ t) (t7 : t ≤ 7) (z0 : 0 ≤ z) (p0 : 0 ≤ R t.toNat 0) (p1 : R t.toNat 0 ≤ H (5 + 9 * t.toNat)) : 0 ≤ ye_in H R t z ∧ ye_in H R t z ≤ z - ye_se H t z ∧ R t.toNat 0 + ye_in H R t z ≤ H (5 + 9 * t.toNat) ∧ ye_in H R t z ≤ 999 := by
  have q := hT (5 + 9 * t.toNat) (by omega) (by omega)
  have s := ye_se_b hT t0 t7 z0
  unfold ye_in; split <;> omega
end YB
section YB2
variable {H g A B C : Nat → Int} {R : Nat → Nat → Int} {m : Int} {L O P W x : Int} {t k : Nat} {r : Nat → Int}
theorem ye_mi_w : ye_mi H t r 0 = r 0 ∧ ye_mi H t r 1 = r 1 + H (9 + 9 * t) ∧ ye_mi H t r 2 = r 2 ∧ ye_mi H t r 3 = r 3 ∧ ye_mi H t r 4 = r 4 + 1 ∧ ye_mi H t r 5 = r 5 ∧ ye_mi H t r 6 = r 6 ∧ ye_mi H t r 7 = r 7 ∧ ye_mi H t r 8 = r 8 ∧ ye_mi H t r 9 = r 9 ∧ ye_mi H t r 10 = r 10 := ⟨rfl, rfl, rfl, rfl, rfl, rfl, rfl, rfl, rfl, rfl, rfl⟩
theorem ye_pc_w {c : Int} : ye_pc r c 0 = r 0 + c ∧ ye_pc r c 1 = r 1 ∧ ye_pc r c 2 = r 2 ∧ ye_pc r c 3 = r 3 ∧ ye_pc r c 4 = r 4 ∧ ye_pc r c 5 = r 5 ∧ ye_pc r c 6 = r 6 + c ∧ ye_pc r c 7 = r 7 ∧ ye_pc r c 8 = r 8 ∧ ye_pc r c 9 = r 9 ∧ ye_pc r c 10 = r 10 := ⟨rfl, rfl, rfl, rfl, rfl, rfl, rfl, rfl, rfl, rfl, rfl⟩
/-- a row behind the WATER and the mills -/
def ye_r2 (H : Nat → Int) (m : Int) (t : Nat) (r : Nat → Int) : Prop := (0 ≤ r 0 ∧ r 0 ≤ H (5 + 9 * t)) ∧ (0 ≤ r 1 ∧ r 1 ≤ 1999 + 13000 * m) ∧ (0 ≤ r 2 ∧ r 2 ≤ m) ∧ (r 3 = 0 ∨ (r 3 = 1 ∧ r 0 = 0)) ∧ (0 ≤ r 4 ∧ r 4 ≤ m + 1) ∧ (0 ≤ r 5 ∧ r 5 ≤ 1000 * m + 999) ∧ (0 ≤ r 6 ∧ r 6 ≤ 1000 * m + 999) ∧ (0 ≤ r 7 ∧ r 7 ≤ m) ∧ (0 ≤ r 8 ∧ r 8 ≤ m) ∧ (0 ≤ r 9 ∧ r 9 ≤ 12000 ∧ (m < 12 → r 9 = 0)) ∧ (0 ≤ r 10 ∧ r 10 ≤ r 8)
theorem ye_ml_b (hT : ∀ j, 4 ≤ j → j < 76 → 0 ≤ H j ∧ H j ≤ 999) (h0 : 0 ≤ H 0 ∧ H 0 ≤ 8) (hW : 0 ≤ W) (hl : (L = 8 ∧ O = -1) ∨ ((0 ≤ L ∧ L < H 0) ∧ (O = -1 ∨ ((0 ≤ O ∧ O < H 0) ∧ O ≠ L)))) (hR : ∀ t : Nat, t < 8 → ye_r1 H m t ((t : Int) = L ∨ (t : Int) = O) (R t)) : ∀ t, t < 8 → ye_r2 H m t (ye_ml H L O (ye_R2 H R L O W) t) := fun t ht => by
  have keep : ∀ r, ye_r1 H m t ((t : Int) = L ∨ (t : Int) = O) r → ye_r2 H m t r := fun r h => by
    obtain ⟨a0, a1, a2, a3, a4, a5, a6, a7, a8, a9, a10⟩ := h
    exact ⟨a0, by omega, a2, a3.imp id (fun q => q.2), by omega, a5, by omega, a7, a8, a9, a10⟩
  have pour : ∀ c : Int, ((t : Int) = L ∨ (t : Int) = O) → 0 ≤ c → c ≤ 999 → R t 0 + c ≤ H (5 + 9 * t) → ye_r2 H m t (ye_mi H t (ye_pc (R t) c)) := fun c a c0 c1 c2 => by
    obtain ⟨a0, a1, a2, a3, a4, a5, a6, a7, a8, a9, a10⟩ := hR t ht
    obtain ⟨w0, w1, w2, w3, w4, w5, w6, w7, w8, w9, w10⟩ := ye_mi_w (H := H) (t := t) (r := ye_pc (R t) c)
    obtain ⟨v0, v1, v2, v3, v4, v5, v6, v7, v8, v9, v10⟩ := ye_pc_w (r := R t) (c := c)
    have q := hT (9 + 9 * t) (by omega) (by omega)
    unfold ye_r2
    rw [w0, w1, w2, w3, w4, w5, w6, w7, w8, w9, w10, v0, v1, v2, v3, v4, v5, v6, v7, v8, v9, v10]
    exact ⟨by omega, by omega, a2, Or.inl (a3.elim id (fun q => absurd a q.1)), by omega, a5, by omega, a7, a8, a9, a10⟩
  rcases hl with ⟨rfl, rfl⟩ | ⟨⟨l0, l1⟩, ho⟩
  · rw [show ye_R2 H R 8 (-1) W = R from if_pos rfl]
    unfold ye_ml
    rw [if_neg (by omega)]; exact keep _ (hR t ht)
  · have rl := hR L.toNat (by omega)
    rcases ho with rfl | ⟨⟨o0, o1⟩, on⟩
    · rw [show ye_R2 H R L (-1) W = ye_cR H R L W by unfold ye_R2; rw [if_neg (show ¬ L = 8 by omega), if_pos (by decide)]]
      unfold ye_ml ye_cR
      by_cases e : t = L.toNat
      · subst e
        rw [if_pos (by omega), ye_ru_s]
        have b := ye_in_b (R := R) hT l0 (by omega) hW rl.1.1 rl.1.2
        exact pour _ (by omega) b.1 b.2.2.2 b.2.2.1
      · rw [if_neg (by omega), ye_ru_n e]; exact keep _ (hR t ht)
    · rw [show ye_R2 H R L O W = ye_cR H (ye_cR H R L (W - W / 2)) O (W / 2) by unfold ye_R2; rw [if_neg (show ¬ L = 8 by omega), if_neg (show ¬ O < 0 by omega)]]
      have ro := hR O.toNat (by omega)
      have e0 : ye_cR H R L (W - W / 2) O.toNat = R O.toNat := ye_ru_n (by omega)
      unfold ye_ml
      by_cases e : t = O.toNat
      · subst e
        rw [if_pos (by omega)]
        have b := ye_in_b (R := ye_cR H R L (W - W / 2)) (t := O) (z := W / 2) hT o0 (by omega) (by omega) (by rw [e0]; exact ro.1.1) (by rw [e0]; exact ro.1.2)
        have b2 := b.2.2.1
        rw [e0] at b2
        rw [show ye_cR H (ye_cR H R L (W - W / 2)) O (W / 2) O.toNat = ye_pc (R O.toNat) (ye_in H (ye_cR H R L (W - W / 2)) O (W / 2)) by rw [← e0]; exact ye_ru_s]
        exact pour _ (by omega) b.1 b.2.2.2 b2
      · rw [show ye_cR H (ye_cR H R L (W - W / 2)) O (W / 2) t = ye_cR H R L (W - W / 2) t from ye_ru_n e]
        by_cases e2 : t = L.toNat
        · subst e2
          rw [if_pos (by omega)]
          have b := ye_in_b (R := R) (z := W - W / 2) hT l0 (by omega) (by omega) rl.1.1 rl.1.2
          rw [show ye_cR H R L (W - W / 2) L.toNat = ye_pc (R L.toNat) (ye_in H R L (W - W / 2)) from ye_ru_s]
          exact pour _ (by omega) b.1 b.2.2.2 b.2.2.1
        · rw [if_neg (by omega), show ye_cR H R L (W - W / 2) t = R t from ye_ru_n e2]; exact keep _ (hR t ht)
/-- behind USE and fields -/
def ye_r3 (H : Nat → Int) (m : Int) (t : Nat) (r : Nat → Int) : Prop := (0 ≤ r 0 ∧ r 0 ≤ H (5 + 9 * t)) ∧ (0 ≤ r 1 ∧ r 1 ≤ 1999 + 13000 * m) ∧ (0 ≤ r 2 ∧ r 2 ≤ m + 1) ∧ (r 3 = 0 ∨ (r 3 = 1 ∧ r 0 = 0)) ∧ (0 ≤ r 4 ∧ r 4 ≤ m + 1) ∧ (0 ≤ r 5 ∧ r 5 ≤ 1000 * m + 999) ∧ (0 ≤ r 6 ∧ r 6 ≤ 1000 * m + 999) ∧ (0 ≤ r 7 ∧ r 7 ≤ m + 1) ∧ (0 ≤ r 8 ∧ r 8 ≤ m + 1) ∧ (0 ≤ r 9 ∧ r 9 ≤ 12000 ∧ (m < 12 → r 9 = 0)) ∧ (0 ≤ r 10 ∧ r 10 ≤ r 8)
theorem ye_dk_b (hT : ∀ j, 4 ≤ j → j < 76 → 0 ≤ H j ∧ H j ≤ 999) (h3 : 1 ≤ H 3) (ht : t < 8) (h : ye_r2 H m t r) : ye_r3 H m t (ye_dk H t r) ∧ (0 ≤ ye_u H t r + ye_fl H t r ∧ ye_u H t r + ye_fl H t r ≤ 1998) ∧ (0 ≤ ye_sp H t r ∧ ye_sp H t r ≤ 999) := by
  obtain ⟨a0, a1, a2, a3, a4, a5, a6, a7, a8, a9, a10⟩ := h
  have t5 := hT (5 + 9 * t) (by omega) (by omega)
  have t6 := hT (6 + 9 * t) (by omega) (by omega)
  have t11 := hT (11 + 9 * t) (by omega) (by omega)
  obtain ⟨w0, w1, w2, w3, w4, w5, w6, w7, w8, w9, w10⟩ := ye_dkw (H := H) (t := t) (r := r)
  have eu : 0 ≤ ye_u H t r ∧ ye_u H t r ≤ r 0 ∧ ye_u H t r ≤ H (6 + 9 * t) := by unfold ye_u; split <;> omega
  have ed : 0 ≤ ye_d H t r ∧ ye_d H t r ≤ m + 1 := by unfold ye_d; split <;> omega
  have es : 0 ≤ ye_sp H t r ∧ ye_sp H t r ≤ r 0 - ye_u H t r ∧ (H 3 ≤ ye_d H t r → ye_sp H t r = r 0 - ye_u H t r) := by
    unfold ye_sp; split
    · exact ⟨by omega, Int.le_refl _, fun _ => rfl⟩
    · exact ⟨Int.le_refl 0, by omega, fun q => by omega⟩
  have ef : 0 ≤ ye_fl H t r ∧ ye_fl H t r ≤ r 0 - ye_u H t r - ye_sp H t r ∧ ye_fl H t r ≤ H (11 + 9 * t) := by unfold ye_fl; split <;> omega
  have eg : 0 ≤ ye_gr H t r ∧ ye_gr H t r ≤ r 10 + 1 := by unfold ye_gr; split <;> omega
  refine ⟨?_, by omega, by omega⟩
  unfold ye_r3
  rw [w0, w1, w2, w3, w4, w5, w6, w7, w8, w9, w10]
  refine ⟨by omega, a1, ed, ?_, a4, a5, a6, ?_, ?_, a9, ?_⟩
  · by_cases c : H 3 ≤ ye_d H t r
    · rw [if_pos c]; have := es.2.2 c; exact Or.inr ⟨rfl, by omega⟩
    · rw [if_neg c]; rcases a3 with q | ⟨q1, q2⟩
      · exact Or.inl q
      · exact Or.inr ⟨q1, by omega⟩
  · split <;> omega
  · split <;> omega
  · split <;> omega
end YB2
end
