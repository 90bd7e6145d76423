/-! ===== year, town, let, droughts, as the YEAR now tells (laid by a program) ===== -/
section SW
variable {d : Nat} {full : List mj_E} {Q : mj_P} {rest : List mj_E} {L : mj_L} {st : List mj_V} {G : mj_G} {M : mj_M} {cb sb pc : Nat} {im : Int}
theorem w_sw11 {df lo hi z : Int} {offs : _} {t0 t1 t2 t3 t4 t5 t6 t7 t8 t9 t10 t11 : Nat} (k0 : z < lo ∨ hi < z → wz d full Q (full.drop t0) L st G M cb sb) (k1 : z = lo → wz d full Q (full.drop t1) L st G M cb sb) (k2 : z = lo + 1 → wz d full Q (full.drop t2) L st G M cb sb) (k3 : z = lo + 1 + 1 → wz d full Q (full.drop t3) L st G M cb sb) (k4 : z = lo + 1 + 1 + 1 → wz d full Q (full.drop t4) L st G M cb sb) (k5 : z = lo + 1 + 1 + 1 + 1 → wz d full Q (full.drop t5) L st G M cb sb) (k6 : z = lo + 1 + 1 + 1 + 1 + 1 → wz d full Q (full.drop t6) L st G M cb sb) (k7 : z = lo + 1 + 1 + 1 + 1 + 1 + 1 → wz d full Q (full.drop t7) L st G M cb sb) (k8 : z = lo + 1 + 1 + 1 + 1 + 1 + 1 + 1 → wz d full Q (full.drop t8) L st G M cb sb) (k9 : z = lo + 1 + 1 + 1 + 1 + 1 + 1 + 1 + 1 → wz d full Q (full.drop t9) L st G M cb sb) (k10 : z = lo + 1 + 1 + 1 + 1 + 1 + 1 + 1 + 1 + 1 → wz d full Q (full.drop t10) L st G M cb sb) (k11 : z = lo + 1 + 1 + 1 + 1 + 1 + 1 + 1 + 1 + 1 + 1 → wz d full Q (full.drop t11) L st G M cb sb) : wz d full Q ((.tableswitch df lo hi offs, pc, [t0, t1, t2, t3, t4, t5, t6, t7, t8, t9, t10, t11], im) :: rest) L (.inl z :: st) G M cb sb := wz_st ⟨k0, k1, k2, k3, k4, k5, k6, k7, k8, k9, k10, k11, trivial⟩
end SW
def lr_town (H : Nat → Int) (z1 z2 : Int) : Int := if H 221 ≠ 0 ∧ (0 ≤ z1 ∧ z1 < H 0) ∧ (0 ≤ z2 ∧ z2 ≤ 9) then H (11 * z1 + z2 + 232).toNat else -1
def lr_let (H : Nat → Int) (z1 z2 : Int) : Int := if H 221 ≠ 0 ∧ (0 ≤ z1 ∧ z1 < H 222) ∧ (0 ≤ z2 ∧ z2 ≤ 2) then H (3 * z1 + z2 + 320).toNat else -1
def lr_year (H : Nat → Int) (z1 : Int) : Int := if H 221 ≠ 0 ∧ 0 ≤ z1 ∧ z1 ≤ 10 then (if z1 < 8 then H (z1 + 222).toNat else if z1 = 8 then ye_sm (fun t => H (232 + 11 * t)) 8 else if z1 = 9 then H 230 else H 231) else -1001
def lr_db (H : Nat → Int) : Nat → Int
  | 0 => 0
  | k + 1 => if H (320 + 3 * k) = 8 then (Int32.ofInt (lr_db H k) ||| Int32.ofInt (Int32.ofInt 1 <<< (Int32.ofInt (k : Int) &&& 31)).toInt).toInt else lr_db H k
def lr_droughts (H : Nat → Int) : Int := if H 221 ≠ 0 then lr_db H (H 222).toNat else -1
section YU
variable {G : mj_G} {M M' : mj_M} {x m tp s kp bc bt kc kr : Nat} {w : Nat → Nat} {Q : mj_P} {d : Nat} {j k f t u : Nat} {fn : Nat → Int}
theorem yw_V.gf (h : yw_V M w 61 (ye_S (M.1 s) 0)) (j1 : 222 ≤ j) (j2 : j < 232) (e : ye_f j = k) : M.1 (w 61) k = M.1 s j := by
  rw [← e, h.1 j j1 j2]; show M.1 s (0 + j) = _; rw [Nat.zero_add]
theorem yw_V.l1 (h : yw_V M w 61 (ye_S (M.1 s) 0)) (hj : j < 12) (hm : (j : Int) < M.1 s 222) (e : k = 320 + 3 * j) : M.1 (w (61 + 1)) j = M.1 s k := by
  have q := (h.2.1 j hj (by show (j : Int) < M.1 s (0 + 222); exact hm)).1
  rw [q, e]; show M.1 s (0 + (320 + 3 * j)) = _; rw [Nat.zero_add]
theorem yw_V.l2 (h : yw_V M w 61 (ye_S (M.1 s) 0)) (hj : j < 12) (hm : (j : Int) < M.1 s 222) (e : k = 321 + 3 * j) : M.1 (w (61 + 2)) j = M.1 s k := by
  have q := (h.2.1 j hj (by show (j : Int) < M.1 s (0 + 222); exact hm)).2.1
  rw [q, e]; show M.1 s (0 + (321 + 3 * j)) = _; rw [Nat.zero_add]
theorem yw_V.l3 (h : yw_V M w 61 (ye_S (M.1 s) 0)) (hj : j < 12) (hm : (j : Int) < M.1 s 222) (e : k = 322 + 3 * j) : M.1 (w (61 + 3)) j = M.1 s k := by
  have q := (h.2.1 j hj (by show (j : Int) < M.1 s (0 + 222); exact hm)).2.2
  rw [q, e]; show M.1 s (0 + (322 + 3 * j)) = _; rw [Nat.zero_add]
theorem yw_V.rw_ (h : yw_V M w 61 (ye_S (M.1 s) 0)) (ht : t < 8) (hu : u < 11) (e : k = 232 + 11 * t + u) : M.1 (w (61 + 5 + t)) u = M.1 s k := by
  have q := h.2.2 t u ht hu
  rw [q, e]; show M.1 s (0 + (232 + 11 * t + u)) = _; rw [Nat.zero_add]
theorem lq_W.run (h : lq_W G M m s kp kc w) (c : M.1 s 221 ≠ 0) : M.1 s 221 = 1 := h.rn.1.resolve_left c
theorem lq_W.yV (h : lq_W G M m s kp kc w) (c : M.1 s 221 ≠ 0) : yw_V M w 61 (ye_S (M.1 s) 0) := (h.2.2.2.1.1.2.2 (h.run c)).1
theorem lq_W.m2 (h : lq_W G M m s kp kc w) (c : M.1 s 221 ≠ 0) : 0 ≤ M.1 s 222 ∧ M.1 s 222 ≤ 12 := by
  have q := (h.rn.2 (h.run c)).1
  have e : (ye_S (M.1 s) 0).1 222 = M.1 s 222 := by show M.1 s (0 + 222) = _; rw [Nat.zero_add]
  rw [e] at q; exact q
theorem lq_W.pd (h : lq_W G M m s kp kc w) (h6 : rv_r6 (M.1 s) 0) (c : M.1 s 221 ≠ 0) : (∀ t, t < 8 → 0 ≤ M.1 s (232 + 11 * t) ∧ M.1 s (232 + 11 * t) ≤ 999) ∧ ∀ t : Nat, t < 8 → M.1 s 0 ≤ (t : Int) → M.1 s (232 + 11 * t) = 0 := by
  obtain ⟨-, -, -, -, -, -, -, -, -, -, a11, a12, -⟩ := h.rn.2 (h.run c)
  have hH := (ye_H.ofs h6 h.2.2.2.1.2.zy).1
  have e : ∀ t, (ye_S (M.1 s) 0).2.2.2.2 t 0 = M.1 s (232 + 11 * t) := fun t => by show M.1 s (0 + (232 + 11 * t + 0)) = _; rw [Nat.zero_add, Nat.add_zero]
  refine ⟨fun t ht => ?_, fun t ht hn => ?_⟩
  · have q := (a11 t ht).1
    have b := hH.2.2.2.2.1 (5 + 9 * t) (by omega) (by omega)
    rw [e] at q; omega
  · have q := a12 t ht hn 0 (by decide)
    rw [e] at q; exact q
theorem ye_sm_bb (hb : ∀ t, t < 8 → 0 ≤ fn t ∧ fn t ≤ 999) : ∀ k, k ≤ 8 → 0 ≤ ye_sm fn k ∧ ye_sm fn k ≤ 999 * (k : Int)
  | 0, _ => ⟨Int.le_refl 0, by show (0 : Int) ≤ 999 * ((0 : Nat) : Int); decide⟩
  | k + 1, h => by
    have q := ye_sm_bb hb k (by omega)
    have b := hb k (by omega)
    show 0 ≤ ye_sm fn k + fn k ∧ ye_sm fn k + fn k ≤ 999 * ((k + 1 : Nat) : Int)
    omega
theorem ye_sm_z (hz : ∀ t, k ≤ t → t < 8 → fn t = 0) : ∀ n, k ≤ n → n ≤ 8 → ye_sm fn n = ye_sm fn k
  | 0, h, _ => by rw [show k = 0 by omega]
  | n + 1, h, h8 => by
    by_cases c : k = n + 1
    · rw [c]
    · show ye_sm fn n + fn n = _
      rw [hz n (by omega) (by omega), ye_sm_z hz n (by omega) (by omega), Int.add_zero]
theorem ye_or0 {x : Int} (hx : mj_in x) : (Int32.ofInt x ||| Int32.ofInt 0).toInt = x := by
  rw [show Int32.ofInt 0 = 0 from rfl, Int32.or_zero]; exact mj_ti hx
/-- all ponds of the class's YEAR now -/
theorem r_inPonds (gA : lq_WA G w) (hB : lq_WB M w) (hf : ∀ t, t < 8 → M.1 (w (61 + 5 + t)) 0 = fn t) (hb : ∀ t, t < 8 → 0 ≤ fn t ∧ fn t ≤ 999) (h : Q (some (.inl (ye_sm fn 8))) G M) : mj_R mj_tab (d + 1) 95 [.inr (.inr (some (w 61)))] G M Q := by
  obtain ⟨g0, -, -, -, g4, g5⟩ := gA 61 (by decide)
  obtain ⟨-, -, -, r6, r4⟩ := hB.1 61 (by decide)
  have key : ∀ (n : Nat) (i : Int) (cb sb : Nat), i + n = 8 → 0 ≤ i → wz d mt_X10_inPonds.2.2.2.2.1 Q (mt_X10_inPonds.2.2.2.2.1.drop 4) [some (.inr (.inr (some (w 61)))), some (.inl (ye_sm fn i.toNat)), some (.inl i)] [] G M cb sb := by
    intro n
    induction n with
    | zero =>
      intro i cb sb e i0
      obtain rfl : i = 8 := by omega
      refine w_iln rfl ?_
      refine w_bp ?_
      refine w_cmge (fun c => ?_) (fun c => by exfalso; omega)
      refine w_iln rfl ?_
      exact w_iret (fun q => by cases q) h
    | succ n ih =>
      intro i cb sb e i0
      have b := ye_sm_bb hb i.toNat (by omega)
      have v := hb i.toNat (by omega)
      refine w_iln rfl ?_
      refine w_bp ?_
      refine w_cmge (fun c => by exfalso; omega) (fun c => ?_)
      refine w_iln rfl ?_
      refine w_aln rfl ?_
      refine w_gr g0 rfl (by decide) rfl r6 ?_
      refine w_iln rfl ?_
      refine w_aald (b := w (61 + 5 + i.toNat)) g4 rfl (by omega) (by show i < ((8 : Nat) : Int); omega) (r4 _ (by omega)) ?_
      refine w_ic ?_
      refine w_iald (v := fn i.toNat) (g5 _ (by omega)) rfl (by decide) (by decide) (hf _ (by omega)) ?_
      refine w_add ⟨by omega, by omega⟩ ?_
      refine w_isn ?_
      refine w_ii rfl ⟨by omega, by omega⟩ ?_
      refine w_goto ?_
      rw [show ye_sm fn i.toNat + fn i.toNat = ye_sm fn (i + 1).toNat by rw [show (i + 1).toNat = i.toNat + 1 by omega]; rfl]
      exact ih (i + 1) _ _ (by omega) (by omega)
  refine ⟨Nat.le_of_ble_eq_true rfl, ?_⟩
  show wz d mt_X10_inPonds.2.2.2.2.1 Q mt_X10_inPonds.2.2.2.2.1 [some (.inr (.inr (some (w 61)))), none, none] [] G M _ _
  refine w_ic ?_
  refine w_isn ?_
  refine w_ic ?_
  refine w_isn ?_
  exact key 8 0 _ _ (by decide) (by decide)
end YU
set_option maxRecDepth 100000 in
set_option maxHeartbeats 2000000 in
theorem lr_X11_town {G : mj_G} {M : mj_M} {x m tp s kp bc bt kc kr : Nat} {w : Nat → Nat} {z1 z2 : Int} (hK : lq_W G M m s kp kc w) (hI : lp_I G M x m tp s kp bc bt kc kr w) (hz1 : mj_in z1) (hz2 : mj_in z2) : mj_R mj_tab 40 152 [.inr (.inr (some x)), .inl z1, .inl z2] G M (fun r _ _ => r = some (.inl (lr_town (M.1 s) z1 z2))) := by
  obtain ⟨hA, hB, p, q, hN, hG6, -⟩ := hI.J
  have hG := hG6.1
  have hG5 := hG6
  obtain ⟨gpl, gna, gta, gba, gwa, gtr, gbr, itr, ibr, p0, p1, p2, p3, rt, rb⟩ := lq_K hA hB hN.pin.1
  have gx := hI.gx
  have gnw := hA.2.2.1
  have b0 := hI.b0
  have bz1 : (-2147483648 : Int) ≤ z1 ∧ z1 < 2147483648 := hz1
  have bz2 : (-2147483648 : Int) ≤ z2 ∧ z2 < 2147483648 := hz2
  have gy := hK.1 61 (by decide)
  have rY := hK.2.1.1 61 (by decide)
  have y29 := hK.2.1.2.1
  have h221 : M.1 (w 61) 0 = M.1 s 221 := hK.2.2.2.1.1.1
  have hV : M.1 s 221 ≠ 0 → yw_V M w 61 (ye_S (M.1 s) 0) := hK.yV
  have hrn := hK.rn.1
  have hm2 : M.1 s 221 ≠ 0 → 0 ≤ M.1 s 222 ∧ M.1 s 222 ≤ 12 := hK.m2
  have hm3 : M.1 s 221 = 0 ∨ (M.1 s 221 = 1 ∧ 0 ≤ M.1 s 222 ∧ M.1 s 222 ≤ 12) := by
    rcases hrn with e | e
    · exact Or.inl e
    · exact Or.inr ⟨e, hm2 (by omega)⟩
  refine ⟨Nat.le_of_ble_eq_true rfl, ?_⟩
  show wz 39 mt_X11_town.2.2.2.2.1 _ mt_X11_town.2.2.2.2.1 [some (.inr (.inr (some x))), some (.inl z1), some (.inl z2)] [] G M _ _
  refine w_aln rfl ?_
  refine w_gr gx rfl (by decide) rfl (hB.2.1) ?_
  refine w_gr gnw rfl (by decide) rfl (y29) ?_
  refine w_gi gy.1 rfl (by decide) rfl (h221) ?_
  refine w_ifeq (fun c1 => ?_) (fun c1 => ?_)
  · skip
    refine w_ic ?_
    exact w_iret (fun q => by cases q) (by show some (Sum.inl _) = some (Sum.inl _); unfold lr_town; split <;> first | rfl | (exfalso; omega) | exact congrArg (fun k => some (Sum.inl (M.1 s k))) (by omega))
  · skip
    refine w_aln rfl ?_
    refine w_iln rfl ?_
    refine w_cv (st := []) rfl gx rfl (Nat.le_of_ble_eq_true rfl) (fun kk h => h) ⟨Nat.le_of_ble_eq_true rfl, ?_⟩
    show wz (38) mt_X11_isTown.2.2.2.2.1 _ mt_X11_isTown.2.2.2.2.1 [some (.inr (.inr (some x))), some (.inl z1)] [] _ _ _ _
    refine w_iln rfl ?_
    refine w_iflt (fun c2 => ?_) (fun c2 => ?_)
    · skip
      refine w_ic ?_
      refine w_iret (fun _ => Or.inl rfl) ?_
      refine w_ifeq (fun c3 => ?_) (fun c3 => ?_)
      · skip
        refine w_ic ?_
        exact w_iret (fun q => by cases q) (by show some (Sum.inl _) = some (Sum.inl _); unfold lr_town; split <;> first | rfl | (exfalso; omega) | exact congrArg (fun k => some (Sum.inl (M.1 s k))) (by omega))
      · exfalso; omega
    · skip
      refine w_iln rfl ?_
      refine w_aln rfl ?_
      refine w_gr gx rfl (by decide) rfl (hB.2.1) ?_
      refine w_gr gnw rfl (by decide) rfl (hN.1) ?_
      refine w_gi gpl rfl (by decide) rfl (hG.1.symm) ?_
      refine w_cmge (fun c4 => ?_) (fun c4 => ?_)
      · skip
        refine w_ic ?_
        refine w_iret (fun _ => Or.inl rfl) ?_
        refine w_ifeq (fun c5 => ?_) (fun c5 => ?_)
        · skip
          refine w_ic ?_
          exact w_iret (fun q => by cases q) (by show some (Sum.inl _) = some (Sum.inl _); unfold lr_town; split <;> first | rfl | (exfalso; omega) | exact congrArg (fun k => some (Sum.inl (M.1 s k))) (by omega))
        · exfalso; omega
      · skip
        refine w_ic ?_
        refine w_goto ?_
        refine w_iret (fun _ => Or.inr rfl) ?_
        refine w_ifeq (fun c6 => ?_) (fun c6 => ?_)
        · exfalso; omega
        · skip
          refine w_iln rfl ?_
          refine w_iflt (fun c7 => ?_) (fun c7 => ?_)
          · skip
            refine w_ic ?_
            exact w_iret (fun q => by cases q) (by show some (Sum.inl _) = some (Sum.inl _); unfold lr_town; split <;> first | rfl | (exfalso; omega) | exact congrArg (fun k => some (Sum.inl (M.1 s k))) (by omega))
          · skip
            refine w_iln rfl ?_
            refine w_bp ?_
            refine w_cmle (fun c8 => ?_) (fun c8 => ?_)
            · skip
              refine w_aln rfl ?_
              refine w_gr gx rfl (by decide) rfl (hB.2.1) ?_
              refine w_gr gnw rfl (by decide) rfl (y29) ?_
              refine w_gr gy.1 rfl (by decide) rfl (rY.2.2.2.1) ?_
              refine w_iln rfl ?_
              refine w_aald gy.2.2.2.2.1 rfl (by show (0 : Int) ≤ z1; omega) (by show z1 < ((8 : Nat) : Int); omega) (rY.2.2.2.2 _ (by show z1.toNat < 8; omega)) ?_
              refine w_iln rfl ?_
              refine w_iald (v := (M.1 s (11 * z1 + z2 + 232).toNat)) (gy.2.2.2.2.2 _ (by show z1.toNat < 8; omega)) rfl (by show (0 : Int) ≤ z2; omega) (by show z2 < ((11 : Nat) : Int); omega) ((hV (by omega)).rw_ (t := z1.toNat) (u := z2.toNat) (by show z1.toNat < 8; omega) (by show z2.toNat < 11; omega) (by show (11 * z1 + z2 + 232).toNat = 232 + 11 * z1.toNat + z2.toNat; omega)) ?_
              exact w_iret (fun q => by cases q) (by show some (Sum.inl _) = some (Sum.inl _); unfold lr_town; split <;> first | rfl | (exfalso; omega) | exact congrArg (fun k => some (Sum.inl (M.1 s k))) (by omega))
            · skip
              refine w_ic ?_
              exact w_iret (fun q => by cases q) (by show some (Sum.inl _) = some (Sum.inl _); unfold lr_town; split <;> first | rfl | (exfalso; omega) | exact congrArg (fun k => some (Sum.inl (M.1 s k))) (by omega))
set_option maxRecDepth 100000 in
set_option maxHeartbeats 2000000 in
theorem lr_X12_town {G : mj_G} {M : mj_M} {x m tp s kp bc bt kc kr : Nat} {w : Nat → Nat} {z1 z2 : Int} (hK : lq_W G M m s kp kc w) (hI : lp_I G M x m tp s kp bc bt kc kr w) (hz1 : mj_in z1) (hz2 : mj_in z2) : mj_R mj_tab 40 252 [.inr (.inr (some m)), .inl z1, .inl z2] G M (fun r _ _ => r = some (.inl (lr_town (M.1 s) z1 z2))) := by
  have gm := hI.gm
  have gs := hI.gs
  have m6 := hI.m6
  have b0 := hI.b0
  have bz1 : (-2147483648 : Int) ≤ z1 ∧ z1 < 2147483648 := hz1
  have bz2 : (-2147483648 : Int) ≤ z2 ∧ z2 < 2147483648 := hz2
  have hrn := hK.rn.1
  have hm2 : M.1 s 221 ≠ 0 → 0 ≤ M.1 s 222 ∧ M.1 s 222 ≤ 12 := hK.m2
  have hm3 : M.1 s 221 = 0 ∨ (M.1 s 221 = 1 ∧ 0 ≤ M.1 s 222 ∧ M.1 s 222 ≤ 12) := by
    rcases hrn with e | e
    · exact Or.inl e
    · exact Or.inr ⟨e, hm2 (by omega)⟩
  refine ⟨Nat.le_of_ble_eq_true rfl, ?_⟩
  show wz 39 mt_X12_town.2.2.2.2.1 _ mt_X12_town.2.2.2.2.1 [some (.inr (.inr (some m))), some (.inl z1), some (.inl z2)] [] G M _ _
  refine w_aln rfl ?_
  refine w_ic ?_
  refine w_pi gm rfl (by decide) rfl (fun q => by cases q) ?_
  refine w_aln rfl ?_
  refine w_gr gm rfl (by decide) rfl (m6) ?_
  refine w_sp ?_
  refine w_iald (v := (M.1 s 221)) gs rfl (by show (0 : Int) ≤ 221; omega) (by show 221 < ((537 : Nat) : Int); omega) ((hn_n (Or.inl (hn_ne gs gm (by decide)))).trans (congrArg (M.1 s) (by show (221 : Int).toNat = 221; omega))) ?_
  refine w_ic ?_
  refine w_cmne (fun c1 => ?_) (fun c1 => ?_)
  · skip
    refine w_ic ?_
    exact w_iret (fun q => by cases q) (by show some (Sum.inl _) = some (Sum.inl _); unfold lr_town; split <;> first | rfl | (exfalso; omega) | exact congrArg (fun k => some (Sum.inl (M.1 s k))) (by omega))
  · skip
    refine w_aln rfl ?_
    refine w_iln rfl ?_
    refine w_cv (st := []) rfl gm rfl (Nat.le_of_ble_eq_true rfl) (fun kk h => h) ⟨Nat.le_of_ble_eq_true rfl, ?_⟩
    show wz (38) mt_X12_isTown.2.2.2.2.1 _ mt_X12_isTown.2.2.2.2.1 [some (.inr (.inr (some m))), some (.inl z1)] [] _ _ _ _
    refine w_iln rfl ?_
    refine w_ic ?_
    refine w_aln rfl ?_
    refine w_gr gm rfl (by decide) rfl (m6) ?_
    refine w_ic ?_
    refine w_iald (v := (M.1 s 0)) gs rfl (by show (0 : Int) ≤ 0; omega) (by show 0 < ((537 : Nat) : Int); omega) ((hn_n (Or.inl (hn_ne gs gm (by decide)))).trans (congrArg (M.1 s) (by show (0 : Int).toNat = 0; omega))) ?_
    refine w_ic ?_
    refine w_sub ⟨by show (-2147483648 : Int) ≤ (M.1 s 0) - 1; omega, by show (M.1 s 0) - 1 < (2147483648 : Int); omega⟩ ?_
    refine w_cs (st := []) rfl (Nat.le_of_ble_eq_true rfl) (fun kk h => h) ⟨Nat.le_of_ble_eq_true rfl, ?_⟩
    show wz (37) mt_X12_isIn.2.2.2.2.1 _ mt_X12_isIn.2.2.2.2.1 [some (.inl z1), some (.inl 0), some (.inl ((M.1 s 0) - 1))] [] _ _ _ _
    refine w_iln rfl ?_
    refine w_iln rfl ?_
    refine w_cmlt (fun c2 => ?_) (fun c2 => ?_)
    · skip
      refine w_ic ?_
      refine w_iret (fun _ => Or.inl rfl) ?_
      refine w_iret (fun _ => Or.inl rfl) ?_
      refine w_ifeq (fun c3 => ?_) (fun c3 => ?_)
      · skip
        refine w_ic ?_
        exact w_iret (fun q => by cases q) (by show some (Sum.inl _) = some (Sum.inl _); unfold lr_town; split <;> first | rfl | (exfalso; omega) | exact congrArg (fun k => some (Sum.inl (M.1 s k))) (by omega))
      · exfalso; omega
    · skip
      refine w_iln rfl ?_
      refine w_iln rfl ?_
      refine w_cmgt (fun c4 => ?_) (fun c4 => ?_)
      · skip
        refine w_ic ?_
        refine w_iret (fun _ => Or.inl rfl) ?_
        refine w_iret (fun _ => Or.inl rfl) ?_
        refine w_ifeq (fun c5 => ?_) (fun c5 => ?_)
        · skip
          refine w_ic ?_
          exact w_iret (fun q => by cases q) (by show some (Sum.inl _) = some (Sum.inl _); unfold lr_town; split <;> first | rfl | (exfalso; omega) | exact congrArg (fun k => some (Sum.inl (M.1 s k))) (by omega))
        · exfalso; omega
      · skip
        refine w_ic ?_
        refine w_goto ?_
        refine w_iret (fun _ => Or.inr rfl) ?_
        refine w_iret (fun _ => Or.inr rfl) ?_
        refine w_ifeq (fun c6 => ?_) (fun c6 => ?_)
        · exfalso; omega
        · skip
          refine w_iln rfl ?_
          refine w_ic ?_
          refine w_bp ?_
          refine w_cs (st := []) rfl (Nat.le_of_ble_eq_true rfl) (fun kk h => h) ⟨Nat.le_of_ble_eq_true rfl, ?_⟩
          show wz (38) mt_X12_isIn.2.2.2.2.1 _ mt_X12_isIn.2.2.2.2.1 [some (.inl z2), some (.inl 0), some (.inl 9)] [] _ _ _ _
          refine w_iln rfl ?_
          refine w_iln rfl ?_
          refine w_cmlt (fun c7 => ?_) (fun c7 => ?_)
          · skip
            refine w_ic ?_
            refine w_iret (fun _ => Or.inl rfl) ?_
            refine w_ifeq (fun c8 => ?_) (fun c8 => ?_)
            · skip
              refine w_ic ?_
              exact w_iret (fun q => by cases q) (by show some (Sum.inl _) = some (Sum.inl _); unfold lr_town; split <;> first | rfl | (exfalso; omega) | exact congrArg (fun k => some (Sum.inl (M.1 s k))) (by omega))
            · exfalso; omega
          · skip
            refine w_iln rfl ?_
            refine w_iln rfl ?_
            refine w_cmgt (fun c9 => ?_) (fun c9 => ?_)
            · skip
              refine w_ic ?_
              refine w_iret (fun _ => Or.inl rfl) ?_
              refine w_ifeq (fun c10 => ?_) (fun c10 => ?_)
              · skip
                refine w_ic ?_
                exact w_iret (fun q => by cases q) (by show some (Sum.inl _) = some (Sum.inl _); unfold lr_town; split <;> first | rfl | (exfalso; omega) | exact congrArg (fun k => some (Sum.inl (M.1 s k))) (by omega))
              · exfalso; omega
            · skip
              refine w_ic ?_
              refine w_goto ?_
              refine w_iret (fun _ => Or.inr rfl) ?_
              refine w_ifeq (fun c11 => ?_) (fun c11 => ?_)
              · exfalso; omega
              · skip
                refine w_aln rfl ?_
                refine w_iln rfl ?_
                refine w_iln rfl ?_
                refine w_cv (st := []) rfl gm rfl (Nat.le_of_ble_eq_true rfl) (fun kk h => h) ⟨Nat.le_of_ble_eq_true rfl, ?_⟩
                show wz (38) mt_X12_of.2.2.2.2.1 _ mt_X12_of.2.2.2.2.1 [some (.inr (.inr (some m))), some (.inl z1), some (.inl z2)] [] _ _ _ _
                refine w_aln rfl ?_
                refine w_gr gm rfl (by decide) rfl (m6) ?_
                refine w_sp ?_
                refine w_bp ?_
                refine w_iln rfl ?_
                refine w_mul ⟨by show (-2147483648 : Int) ≤ 11 * z1; omega, by show 11 * z1 < (2147483648 : Int); omega⟩ ?_
                refine w_add ⟨by show (-2147483648 : Int) ≤ 232 + (11 * z1); omega, by show 232 + (11 * z1) < (2147483648 : Int); omega⟩ ?_
                refine w_iln rfl ?_
                refine w_add ⟨by show (-2147483648 : Int) ≤ (232 + (11 * z1)) + z2; omega, by show (232 + (11 * z1)) + z2 < (2147483648 : Int); omega⟩ ?_
                refine w_iald (v := (M.1 s (11 * z1 + z2 + 232).toNat)) gs rfl (by show (0 : Int) ≤ (232 + (11 * z1)) + z2; omega) (by show (232 + (11 * z1)) + z2 < ((537 : Nat) : Int); omega) ((hn_n (Or.inl (hn_ne gs gm (by decide)))).trans (congrArg (M.1 s) (by show ((232 + (11 * z1)) + z2).toNat = (11 * z1 + z2 + 232).toNat; omega))) ?_
                refine w_iret (fun q => by cases q) ?_
                refine w_goto ?_
                exact w_iret (fun q => by cases q) (by show some (Sum.inl _) = some (Sum.inl _); unfold lr_town; split <;> first | rfl | (exfalso; omega) | exact congrArg (fun k => some (Sum.inl (M.1 s k))) (by omega))
set_option maxRecDepth 100000 in
set_option maxHeartbeats 2000000 in
theorem lr_X11_let {G : mj_G} {M : mj_M} {x m tp s kp bc bt kc kr : Nat} {w : Nat → Nat} {z1 z2 : Int} (hK : lq_W G M m s kp kc w) (hI : lp_I G M x m tp s kp bc bt kc kr w) (hz1 : mj_in z1) (hz2 : mj_in z2) : mj_R mj_tab 40 133 [.inr (.inr (some x)), .inl z1, .inl z2] G M (fun r _ _ => r = some (.inl (lr_let (M.1 s) z1 z2))) := by
  obtain ⟨hA, hB, p, q, hN, hG6, -⟩ := hI.J
  have hG := hG6.1
  have hG5 := hG6
  obtain ⟨gpl, gna, gta, gba, gwa, gtr, gbr, itr, ibr, p0, p1, p2, p3, rt, rb⟩ := lq_K hA hB hN.pin.1
  have gx := hI.gx
  have gnw := hA.2.2.1
  have b0 := hI.b0
  have bz1 : (-2147483648 : Int) ≤ z1 ∧ z1 < 2147483648 := hz1
  have bz2 : (-2147483648 : Int) ≤ z2 ∧ z2 < 2147483648 := hz2
  have gy := hK.1 61 (by decide)
  have rY := hK.2.1.1 61 (by decide)
  have y29 := hK.2.1.2.1
  have h221 : M.1 (w 61) 0 = M.1 s 221 := hK.2.2.2.1.1.1
  have hV : M.1 s 221 ≠ 0 → yw_V M w 61 (ye_S (M.1 s) 0) := hK.yV
  have hrn := hK.rn.1
  have hm2 : M.1 s 221 ≠ 0 → 0 ≤ M.1 s 222 ∧ M.1 s 222 ≤ 12 := hK.m2
  have hm3 : M.1 s 221 = 0 ∨ (M.1 s 221 = 1 ∧ 0 ≤ M.1 s 222 ∧ M.1 s 222 ≤ 12) := by
    rcases hrn with e | e
    · exact Or.inl e
    · exact Or.inr ⟨e, hm2 (by omega)⟩
  refine ⟨Nat.le_of_ble_eq_true rfl, ?_⟩
  show wz 39 mt_X11_let.2.2.2.2.1 _ mt_X11_let.2.2.2.2.1 [some (.inr (.inr (some x))), some (.inl z1), some (.inl z2)] [] G M _ _
  refine w_aln rfl ?_
  refine w_gr gx rfl (by decide) rfl (hB.2.1) ?_
  refine w_gr gnw rfl (by decide) rfl (y29) ?_
  refine w_gi gy.1 rfl (by decide) rfl (h221) ?_
  refine w_ifeq (fun c1 => ?_) (fun c1 => ?_)
  · skip
    refine w_ic ?_
    exact w_iret (fun q => by cases q) (by show some (Sum.inl _) = some (Sum.inl _); unfold lr_let; split <;> first | rfl | (exfalso; omega) | exact congrArg (fun k => some (Sum.inl (M.1 s k))) (by omega))
  · skip
    refine w_iln rfl ?_
    refine w_cs (st := []) rfl (Nat.le_of_ble_eq_true rfl) (fun kk h => h) ⟨Nat.le_of_ble_eq_true rfl, ?_⟩
    show wz (38) mt_X11_isMonth.2.2.2.2.1 _ mt_X11_isMonth.2.2.2.2.1 [some (.inl z1)] [] _ _ _ _
    refine w_iln rfl ?_
    refine w_iflt (fun c2 => ?_) (fun c2 => ?_)
    · skip
      refine w_ic ?_
      refine w_iret (fun _ => Or.inl rfl) ?_
      refine w_ifeq (fun c3 => ?_) (fun c3 => ?_)
      · skip
        refine w_ic ?_
        exact w_iret (fun q => by cases q) (by show some (Sum.inl _) = some (Sum.inl _); unfold lr_let; split <;> first | rfl | (exfalso; omega) | exact congrArg (fun k => some (Sum.inl (M.1 s k))) (by omega))
      · exfalso; omega
    · skip
      refine w_iln rfl ?_
      refine w_bp ?_
      refine w_cmge (fun c4 => ?_) (fun c4 => ?_)
      · skip
        refine w_ic ?_
        refine w_iret (fun _ => Or.inl rfl) ?_
        refine w_ifeq (fun c5 => ?_) (fun c5 => ?_)
        · skip
          refine w_ic ?_
          exact w_iret (fun q => by cases q) (by show some (Sum.inl _) = some (Sum.inl _); unfold lr_let; split <;> first | rfl | (exfalso; omega) | exact congrArg (fun k => some (Sum.inl (M.1 s k))) (by omega))
        · exfalso; omega
      · skip
        refine w_ic ?_
        refine w_goto ?_
        refine w_iret (fun _ => Or.inr rfl) ?_
        refine w_ifeq (fun c6 => ?_) (fun c6 => ?_)
        · exfalso; omega
        · skip
          refine w_iln rfl ?_
          refine w_aln rfl ?_
          refine w_gr gx rfl (by decide) rfl (hB.2.1) ?_
          refine w_gr gnw rfl (by decide) rfl (y29) ?_
          refine w_gi gy.1 rfl (by decide) rfl ((hV (by omega)).gf (j := 222) (by decide) (by decide) rfl) ?_
          refine w_cmlt (fun c7 => ?_) (fun c7 => ?_)
          · skip
            refine w_iln rfl ?_
            refine w_sw3 (fun c8 => ?_) (fun c9 => ?_) (fun c10 => ?_) (fun c11 => ?_)
            · skip
              refine w_ic ?_
              exact w_iret (fun q => by cases q) (by show some (Sum.inl _) = some (Sum.inl _); unfold lr_let; split <;> first | rfl | (exfalso; omega) | exact congrArg (fun k => some (Sum.inl (M.1 s k))) (by omega))
            · skip
              refine w_aln rfl ?_
              refine w_gr gx rfl (by decide) rfl (hB.2.1) ?_
              refine w_gr gnw rfl (by decide) rfl (y29) ?_
              refine w_gr gy.1 rfl (by decide) rfl (rY.1) ?_
              refine w_iln rfl ?_
              refine w_iald (v := (M.1 s (3 * z1 + 320).toNat)) gy.2.1 rfl (by show (0 : Int) ≤ z1; omega) (by show z1 < ((12 : Nat) : Int); omega) ((hV (by omega)).l1 (by show z1.toNat < 12; omega) (by show ((z1.toNat : Nat) : Int) < M.1 s 222; omega) (by show (3 * z1 + 320).toNat = 320 + 3 * z1.toNat; omega)) ?_
              exact w_iret (fun q => by cases q) (by show some (Sum.inl _) = some (Sum.inl _); unfold lr_let; split <;> first | rfl | (exfalso; omega) | exact congrArg (fun k => some (Sum.inl (M.1 s k))) (by omega))
            · skip
              refine w_aln rfl ?_
              refine w_gr gx rfl (by decide) rfl (hB.2.1) ?_
              refine w_gr gnw rfl (by decide) rfl (y29) ?_
              refine w_gr gy.1 rfl (by decide) rfl (rY.2.1) ?_
              refine w_iln rfl ?_
              refine w_iald (v := (M.1 s (3 * z1 + 321).toNat)) gy.2.2.1 rfl (by show (0 : Int) ≤ z1; omega) (by show z1 < ((12 : Nat) : Int); omega) ((hV (by omega)).l2 (by show z1.toNat < 12; omega) (by show ((z1.toNat : Nat) : Int) < M.1 s 222; omega) (by show (3 * z1 + 321).toNat = 321 + 3 * z1.toNat; omega)) ?_
              exact w_iret (fun q => by cases q) (by show some (Sum.inl _) = some (Sum.inl _); unfold lr_let; split <;> first | rfl | (exfalso; omega) | exact congrArg (fun k => some (Sum.inl (M.1 s k))) (by omega))
            · skip
              refine w_aln rfl ?_
              refine w_gr gx rfl (by decide) rfl (hB.2.1) ?_
              refine w_gr gnw rfl (by decide) rfl (y29) ?_
              refine w_gr gy.1 rfl (by decide) rfl (rY.2.2.1) ?_
              refine w_iln rfl ?_
              refine w_iald (v := (M.1 s (3 * z1 + 322).toNat)) gy.2.2.2.1 rfl (by show (0 : Int) ≤ z1; omega) (by show z1 < ((12 : Nat) : Int); omega) ((hV (by omega)).l3 (by show z1.toNat < 12; omega) (by show ((z1.toNat : Nat) : Int) < M.1 s 222; omega) (by show (3 * z1 + 322).toNat = 322 + 3 * z1.toNat; omega)) ?_
              exact w_iret (fun q => by cases q) (by show some (Sum.inl _) = some (Sum.inl _); unfold lr_let; split <;> first | rfl | (exfalso; omega) | exact congrArg (fun k => some (Sum.inl (M.1 s k))) (by omega))
          · skip
            refine w_ic ?_
            exact w_iret (fun q => by cases q) (by show some (Sum.inl _) = some (Sum.inl _); unfold lr_let; split <;> first | rfl | (exfalso; omega) | exact congrArg (fun k => some (Sum.inl (M.1 s k))) (by omega))
set_option maxRecDepth 100000 in
set_option maxHeartbeats 2000000 in
theorem lr_X12_let {G : mj_G} {M : mj_M} {x m tp s kp bc bt kc kr : Nat} {w : Nat → Nat} {z1 z2 : Int} (hK : lq_W G M m s kp kc w) (hI : lp_I G M x m tp s kp bc bt kc kr w) (hz1 : mj_in z1) (hz2 : mj_in z2) : mj_R mj_tab 40 211 [.inr (.inr (some m)), .inl z1, .inl z2] G M (fun r _ _ => r = some (.inl (lr_let (M.1 s) z1 z2))) := by
  have gm := hI.gm
  have gs := hI.gs
  have m6 := hI.m6
  have b0 := hI.b0
  have bz1 : (-2147483648 : Int) ≤ z1 ∧ z1 < 2147483648 := hz1
  have bz2 : (-2147483648 : Int) ≤ z2 ∧ z2 < 2147483648 := hz2
  have hrn := hK.rn.1
  have hm2 : M.1 s 221 ≠ 0 → 0 ≤ M.1 s 222 ∧ M.1 s 222 ≤ 12 := hK.m2
  have hm3 : M.1 s 221 = 0 ∨ (M.1 s 221 = 1 ∧ 0 ≤ M.1 s 222 ∧ M.1 s 222 ≤ 12) := by
    rcases hrn with e | e
    · exact Or.inl e
    · exact Or.inr ⟨e, hm2 (by omega)⟩
  refine ⟨Nat.le_of_ble_eq_true rfl, ?_⟩
  show wz 39 mt_X12_let.2.2.2.2.1 _ mt_X12_let.2.2.2.2.1 [some (.inr (.inr (some m))), some (.inl z1), some (.inl z2)] [] G M _ _
  refine w_aln rfl ?_
  refine w_ic ?_
  refine w_pi gm rfl (by decide) rfl (fun q => by cases q) ?_
  refine w_aln rfl ?_
  refine w_gr gm rfl (by decide) rfl (m6) ?_
  refine w_sp ?_
  refine w_iald (v := (M.1 s 221)) gs rfl (by show (0 : Int) ≤ 221; omega) (by show 221 < ((537 : Nat) : Int); omega) ((hn_n (Or.inl (hn_ne gs gm (by decide)))).trans (congrArg (M.1 s) (by show (221 : Int).toNat = 221; omega))) ?_
  refine w_ic ?_
  refine w_cmne (fun c1 => ?_) (fun c1 => ?_)
  · skip
    refine w_ic ?_
    exact w_iret (fun q => by cases q) (by show some (Sum.inl _) = some (Sum.inl _); unfold lr_let; split <;> first | rfl | (exfalso; omega) | exact congrArg (fun k => some (Sum.inl (M.1 s k))) (by omega))
  · skip
    refine w_iln rfl ?_
    refine w_ic ?_
    refine w_aln rfl ?_
    refine w_gr gm rfl (by decide) rfl (m6) ?_
    refine w_sp ?_
    refine w_iald (v := (M.1 s 222)) gs rfl (by show (0 : Int) ≤ 222; omega) (by show 222 < ((537 : Nat) : Int); omega) ((hn_n (Or.inl (hn_ne gs gm (by decide)))).trans (congrArg (M.1 s) (by show (222 : Int).toNat = 222; omega))) ?_
    refine w_ic ?_
    refine w_sub ⟨by show (-2147483648 : Int) ≤ (M.1 s 222) - 1; omega, by show (M.1 s 222) - 1 < (2147483648 : Int); omega⟩ ?_
    refine w_cs (st := []) rfl (Nat.le_of_ble_eq_true rfl) (fun kk h => h) ⟨Nat.le_of_ble_eq_true rfl, ?_⟩
    show wz (38) mt_X12_isIn.2.2.2.2.1 _ mt_X12_isIn.2.2.2.2.1 [some (.inl z1), some (.inl 0), some (.inl ((M.1 s 222) - 1))] [] _ _ _ _
    refine w_iln rfl ?_
    refine w_iln rfl ?_
    refine w_cmlt (fun c2 => ?_) (fun c2 => ?_)
    · skip
      refine w_ic ?_
      refine w_iret (fun _ => Or.inl rfl) ?_
      refine w_ifeq (fun c3 => ?_) (fun c3 => ?_)
      · skip
        refine w_ic ?_
        exact w_iret (fun q => by cases q) (by show some (Sum.inl _) = some (Sum.inl _); unfold lr_let; split <;> first | rfl | (exfalso; omega) | exact congrArg (fun k => some (Sum.inl (M.1 s k))) (by omega))
      · exfalso; omega
    · skip
      refine w_iln rfl ?_
      refine w_iln rfl ?_
      refine w_cmgt (fun c4 => ?_) (fun c4 => ?_)
      · skip
        refine w_ic ?_
        refine w_iret (fun _ => Or.inl rfl) ?_
        refine w_ifeq (fun c5 => ?_) (fun c5 => ?_)
        · skip
          refine w_ic ?_
          exact w_iret (fun q => by cases q) (by show some (Sum.inl _) = some (Sum.inl _); unfold lr_let; split <;> first | rfl | (exfalso; omega) | exact congrArg (fun k => some (Sum.inl (M.1 s k))) (by omega))
        · exfalso; omega
      · skip
        refine w_ic ?_
        refine w_goto ?_
        refine w_iret (fun _ => Or.inr rfl) ?_
        refine w_ifeq (fun c6 => ?_) (fun c6 => ?_)
        · exfalso; omega
        · skip
          refine w_iln rfl ?_
          refine w_ic ?_
          refine w_ic ?_
          refine w_cs (st := []) rfl (Nat.le_of_ble_eq_true rfl) (fun kk h => h) ⟨Nat.le_of_ble_eq_true rfl, ?_⟩
          show wz (38) mt_X12_isIn.2.2.2.2.1 _ mt_X12_isIn.2.2.2.2.1 [some (.inl z2), some (.inl 0), some (.inl 2)] [] _ _ _ _
          refine w_iln rfl ?_
          refine w_iln rfl ?_
          refine w_cmlt (fun c7 => ?_) (fun c7 => ?_)
          · skip
            refine w_ic ?_
            refine w_iret (fun _ => Or.inl rfl) ?_
            refine w_ifeq (fun c8 => ?_) (fun c8 => ?_)
            · skip
              refine w_ic ?_
              exact w_iret (fun q => by cases q) (by show some (Sum.inl _) = some (Sum.inl _); unfold lr_let; split <;> first | rfl | (exfalso; omega) | exact congrArg (fun k => some (Sum.inl (M.1 s k))) (by omega))
            · exfalso; omega
          · skip
            refine w_iln rfl ?_
            refine w_iln rfl ?_
            refine w_cmgt (fun c9 => ?_) (fun c9 => ?_)
            · skip
              refine w_ic ?_
              refine w_iret (fun _ => Or.inl rfl) ?_
              refine w_ifeq (fun c10 => ?_) (fun c10 => ?_)
              · skip
                refine w_ic ?_
                exact w_iret (fun q => by cases q) (by show some (Sum.inl _) = some (Sum.inl _); unfold lr_let; split <;> first | rfl | (exfalso; omega) | exact congrArg (fun k => some (Sum.inl (M.1 s k))) (by omega))
              · exfalso; omega
            · skip
              refine w_ic ?_
              refine w_goto ?_
              refine w_iret (fun _ => Or.inr rfl) ?_
              refine w_ifeq (fun c11 => ?_) (fun c11 => ?_)
              · exfalso; omega
              · skip
                refine w_aln rfl ?_
                refine w_gr gm rfl (by decide) rfl (m6) ?_
                refine w_sp ?_
                refine w_ic ?_
                refine w_iln rfl ?_
                refine w_mul ⟨by show (-2147483648 : Int) ≤ 3 * z1; omega, by show 3 * z1 < (2147483648 : Int); omega⟩ ?_
                refine w_add ⟨by show (-2147483648 : Int) ≤ 320 + (3 * z1); omega, by show 320 + (3 * z1) < (2147483648 : Int); omega⟩ ?_
                refine w_iln rfl ?_
                refine w_add ⟨by show (-2147483648 : Int) ≤ (320 + (3 * z1)) + z2; omega, by show (320 + (3 * z1)) + z2 < (2147483648 : Int); omega⟩ ?_
                refine w_iald (v := (M.1 s (3 * z1 + z2 + 320).toNat)) gs rfl (by show (0 : Int) ≤ (320 + (3 * z1)) + z2; omega) (by show (320 + (3 * z1)) + z2 < ((537 : Nat) : Int); omega) ((hn_n (Or.inl (hn_ne gs gm (by decide)))).trans (congrArg (M.1 s) (by show ((320 + (3 * z1)) + z2).toNat = (3 * z1 + z2 + 320).toNat; omega))) ?_
                refine w_goto ?_
                exact w_iret (fun q => by cases q) (by show some (Sum.inl _) = some (Sum.inl _); unfold lr_let; split <;> first | rfl | (exfalso; omega) | exact congrArg (fun k => some (Sum.inl (M.1 s k))) (by omega))
set_option maxRecDepth 100000 in
set_option maxHeartbeats 2000000 in
theorem lr_X11_year {G : mj_G} {M : mj_M} {x m tp s kp bc bt kc kr : Nat} {w : Nat → Nat} {z1 : Int} (hK : lq_W G M m s kp kc w) (hI : lp_I G M x m tp s kp bc bt kc kr w) (hz1 : mj_in z1) : mj_R mj_tab 40 159 [.inr (.inr (some x)), .inl z1] G M (fun r _ _ => r = some (.inl (lr_year (M.1 s) z1))) := by
  obtain ⟨hA, hB, p, q, hN, hG6, -⟩ := hI.J
  have hG := hG6.1
  have hG5 := hG6
  obtain ⟨gpl, gna, gta, gba, gwa, gtr, gbr, itr, ibr, p0, p1, p2, p3, rt, rb⟩ := lq_K hA hB hN.pin.1
  have gx := hI.gx
  have gnw := hA.2.2.1
  have b0 := hI.b0
  have bz1 : (-2147483648 : Int) ≤ z1 ∧ z1 < 2147483648 := hz1
  have gy := hK.1 61 (by decide)
  have rY := hK.2.1.1 61 (by decide)
  have y29 := hK.2.1.2.1
  have h221 : M.1 (w 61) 0 = M.1 s 221 := hK.2.2.2.1.1.1
  have hV : M.1 s 221 ≠ 0 → yw_V M w 61 (ye_S (M.1 s) 0) := hK.yV
  have hrn := hK.rn.1
  have hm2 : M.1 s 221 ≠ 0 → 0 ≤ M.1 s 222 ∧ M.1 s 222 ≤ 12 := hK.m2
  have hm3 : M.1 s 221 = 0 ∨ (M.1 s 221 = 1 ∧ 0 ≤ M.1 s 222 ∧ M.1 s 222 ≤ 12) := by
    rcases hrn with e | e
    · exact Or.inl e
    · exact Or.inr ⟨e, hm2 (by omega)⟩
  refine ⟨Nat.le_of_ble_eq_true rfl, ?_⟩
  show wz 39 mt_X11_year.2.2.2.2.1 _ mt_X11_year.2.2.2.2.1 [some (.inr (.inr (some x))), some (.inl z1)] [] G M _ _
  refine w_aln rfl ?_
  refine w_gr gx rfl (by decide) rfl (hB.2.1) ?_
  refine w_gr gnw rfl (by decide) rfl (y29) ?_
  refine w_gi gy.1 rfl (by decide) rfl (h221) ?_
  refine w_ifeq (fun c1 => ?_) (fun c1 => ?_)
  · skip
    refine w_sp ?_
    exact w_iret (fun q => by cases q) (by show some (Sum.inl _) = some (Sum.inl _); unfold lr_year; rw [if_neg (by omega)])
  · skip
    refine w_aln rfl ?_
    refine w_gr gx rfl (by decide) rfl (hB.2.1) ?_
    refine w_gr gnw rfl (by decide) rfl (y29) ?_
    refine w_iln rfl ?_
    refine w_cv (st := []) rfl gy.1 rfl (Nat.le_of_ble_eq_true rfl) (fun kk h => h) ⟨Nat.le_of_ble_eq_true rfl, ?_⟩
    show wz (38) mt_X10_number.2.2.2.2.1 _ mt_X10_number.2.2.2.2.1 [some (.inr (.inr (some (w 61)))), some (.inl z1)] [] _ _ _ _
    refine w_iln rfl ?_
    refine w_sw11 (fun c2 => ?_) (fun c3 => ?_) (fun c4 => ?_) (fun c5 => ?_) (fun c6 => ?_) (fun c7 => ?_) (fun c8 => ?_) (fun c9 => ?_) (fun c10 => ?_) (fun c11 => ?_) (fun c12 => ?_) (fun c13 => ?_)
    · skip
      refine w_sp ?_
      refine w_iret (fun q => by cases q) ?_
      refine w_goto ?_
      exact w_iret (fun q => by cases q) (by show some (Sum.inl _) = some (Sum.inl _); unfold lr_year; rw [if_neg (by omega)])
    · skip
      refine w_aln rfl ?_
      refine w_gi gy.1 rfl (by decide) rfl ((hV (by omega)).gf (j := 222) (by decide) (by decide) rfl) ?_
      refine w_iret (fun q => by cases q) ?_
      refine w_goto ?_
      exact w_iret (fun q => by cases q) (by show some (Sum.inl _) = some (Sum.inl _); unfold lr_year; rw [if_pos ⟨by omega, by omega, by omega⟩, if_pos (by omega), show (z1 + 222).toNat = 222 by omega])
    · skip
      refine w_aln rfl ?_
      refine w_gi gy.1 rfl (by decide) rfl ((hV (by omega)).gf (j := 223) (by decide) (by decide) rfl) ?_
      refine w_iret (fun q => by cases q) ?_
      refine w_goto ?_
      exact w_iret (fun q => by cases q) (by show some (Sum.inl _) = some (Sum.inl _); unfold lr_year; rw [if_pos ⟨by omega, by omega, by omega⟩, if_pos (by omega), show (z1 + 222).toNat = 223 by omega])
    · skip
      refine w_aln rfl ?_
      refine w_gi gy.1 rfl (by decide) rfl ((hV (by omega)).gf (j := 224) (by decide) (by decide) rfl) ?_
      refine w_iret (fun q => by cases q) ?_
      refine w_goto ?_
      exact w_iret (fun q => by cases q) (by show some (Sum.inl _) = some (Sum.inl _); unfold lr_year; rw [if_pos ⟨by omega, by omega, by omega⟩, if_pos (by omega), show (z1 + 222).toNat = 224 by omega])
    · skip
      refine w_aln rfl ?_
      refine w_gi gy.1 rfl (by decide) rfl ((hV (by omega)).gf (j := 225) (by decide) (by decide) rfl) ?_
      refine w_iret (fun q => by cases q) ?_
      refine w_goto ?_
      exact w_iret (fun q => by cases q) (by show some (Sum.inl _) = some (Sum.inl _); unfold lr_year; rw [if_pos ⟨by omega, by omega, by omega⟩, if_pos (by omega), show (z1 + 222).toNat = 225 by omega])
    · skip
      refine w_aln rfl ?_
      refine w_gi gy.1 rfl (by decide) rfl ((hV (by omega)).gf (j := 226) (by decide) (by decide) rfl) ?_
      refine w_iret (fun q => by cases q) ?_
      refine w_goto ?_
      exact w_iret (fun q => by cases q) (by show some (Sum.inl _) = some (Sum.inl _); unfold lr_year; rw [if_pos ⟨by omega, by omega, by omega⟩, if_pos (by omega), show (z1 + 222).toNat = 226 by omega])
    · skip
      refine w_aln rfl ?_
      refine w_gi gy.1 rfl (by decide) rfl ((hV (by omega)).gf (j := 227) (by decide) (by decide) rfl) ?_
      refine w_iret (fun q => by cases q) ?_
      refine w_goto ?_
      exact w_iret (fun q => by cases q) (by show some (Sum.inl _) = some (Sum.inl _); unfold lr_year; rw [if_pos ⟨by omega, by omega, by omega⟩, if_pos (by omega), show (z1 + 222).toNat = 227 by omega])
    · skip
      refine w_aln rfl ?_
      refine w_gi gy.1 rfl (by decide) rfl ((hV (by omega)).gf (j := 228) (by decide) (by decide) rfl) ?_
      refine w_iret (fun q => by cases q) ?_
      refine w_goto ?_
      exact w_iret (fun q => by cases q) (by show some (Sum.inl _) = some (Sum.inl _); unfold lr_year; rw [if_pos ⟨by omega, by omega, by omega⟩, if_pos (by omega), show (z1 + 222).toNat = 228 by omega])
    · skip
      refine w_aln rfl ?_
      refine w_gi gy.1 rfl (by decide) rfl ((hV (by omega)).gf (j := 229) (by decide) (by decide) rfl) ?_
      refine w_iret (fun q => by cases q) ?_
      refine w_goto ?_
      exact w_iret (fun q => by cases q) (by show some (Sum.inl _) = some (Sum.inl _); unfold lr_year; rw [if_pos ⟨by omega, by omega, by omega⟩, if_pos (by omega), show (z1 + 222).toNat = 229 by omega])
    · skip
      refine w_aln rfl ?_
      refine w_cv (st := []) rfl gy.1 rfl (Nat.le_of_ble_eq_true rfl) (fun kk h => h) (r_inPonds (d := 37) (fn := fun t => M.1 s (232 + 11 * t)) hK.1 hK.2.1 (fun t ht => (hV (by omega)).rw_ ht (by decide) rfl) (hK.pd hI.T.1 (by omega)).1 ?_)
      refine w_iret (fun q => by cases q) ?_
      refine w_goto ?_
      exact w_iret (fun q => by cases q) (by show some (Sum.inl _) = some (Sum.inl _); unfold lr_year; rw [if_pos ⟨by omega, by omega, by omega⟩, if_neg (by omega), if_pos (by omega)])
    · skip
      refine w_aln rfl ?_
      refine w_gi gy.1 rfl (by decide) rfl ((hV (by omega)).gf (j := 230) (by decide) (by decide) rfl) ?_
      refine w_iret (fun q => by cases q) ?_
      refine w_goto ?_
      exact w_iret (fun q => by cases q) (by show some (Sum.inl _) = some (Sum.inl _); unfold lr_year; rw [if_pos ⟨by omega, by omega, by omega⟩, if_neg (by omega), if_neg (by omega), if_pos (by omega)])
    · skip
      refine w_aln rfl ?_
      refine w_gi gy.1 rfl (by decide) rfl ((hV (by omega)).gf (j := 231) (by decide) (by decide) rfl) ?_
      refine w_iret (fun q => by cases q) ?_
      refine w_goto ?_
      exact w_iret (fun q => by cases q) (by show some (Sum.inl _) = some (Sum.inl _); unfold lr_year; rw [if_pos ⟨by omega, by omega, by omega⟩, if_neg (by omega), if_neg (by omega), if_neg (by omega)])
theorem r_yrB {G : mj_G} {M : mj_M} {m s : Nat} {Q : mj_P} {z1 : Int} (gm : G m = (1012, 0)) (gs : G s = (51100, 537)) (m6 : M.2.2 m 6 = some s) (b0 : 0 ≤ M.1 s 0 ∧ M.1 s 0 ≤ 8) (hb : ∀ t, t < 8 → 0 ≤ M.1 s (232 + 11 * t) ∧ M.1 s (232 + 11 * t) ≤ 999) (h : ∀ cb sb, wz 39 mt_X12_year.2.2.2.2.1 Q (mt_X12_year.2.2.2.2.1.drop 34) [some (.inr (.inr (some m))), some (.inl z1), some (.inl (ye_sm (fun t => M.1 s (232 + 11 * t)) (M.1 s 0).toNat)), some (.inl (M.1 s 0))] [] G (mj_p0 M m 0 0) cb sb) : ∀ (n : Nat) (i : Int) (cb sb : Nat), i + n = M.1 s 0 → 0 ≤ i → wz 39 mt_X12_year.2.2.2.2.1 Q (mt_X12_year.2.2.2.2.1.drop 19) [some (.inr (.inr (some m))), some (.inl z1), some (.inl (ye_sm (fun t => M.1 s (232 + 11 * t)) i.toNat)), some (.inl i)] [] G (mj_p0 M m 0 0) cb sb := by
  have sm : s ≠ m := hn_ne gs gm (by decide)
  have es : (mj_p0 M m 0 0).1 s = M.1 s := wz_c sm
  intro n
  induction n with
  | zero =>
    intro i cb sb e i0
    obtain rfl : i = M.1 s 0 := by omega
    refine w_iln rfl ?_
    refine w_aln rfl ?_
    refine w_gr gm rfl (by decide) rfl m6 ?_
    refine w_ic ?_
    refine w_iald (v := M.1 s 0) gs rfl (by decide) (by decide) (congrFun es 0) ?_
    refine w_cmge (fun c => ?_) (fun c => by exfalso; omega)
    exact h _ _
  | succ n ih =>
    intro i cb sb e i0
    have b := ye_sm_bb (fn := fun t => M.1 s (232 + 11 * t)) hb i.toNat (by omega)
    have v := hb i.toNat (by omega)
    refine w_iln rfl ?_
    refine w_aln rfl ?_
    refine w_gr gm rfl (by decide) rfl m6 ?_
    refine w_ic ?_
    refine w_iald (v := M.1 s 0) gs rfl (by decide) (by decide) (congrFun es 0) ?_
    refine w_cmge (fun c => by exfalso; omega) (fun c => ?_)
    refine w_iln rfl ?_
    refine w_aln rfl ?_
    refine w_iln rfl ?_
    refine w_ic ?_
    refine w_cv (st := [.inl (ye_sm (fun t => M.1 s (232 + 11 * t)) i.toNat)]) rfl gm rfl (Nat.le_of_ble_eq_true rfl) (fun kk h => h) ⟨Nat.le_of_ble_eq_true rfl, ?_⟩
    show wz 38 mt_X12_of.2.2.2.2.1 _ mt_X12_of.2.2.2.2.1 [some (.inr (.inr (some m))), some (.inl i), some (.inl 0)] [] _ _ _ _
    refine w_aln rfl ?_
    refine w_gr gm rfl (by decide) rfl m6 ?_
    refine w_sp ?_
    refine w_bp ?_
    refine w_iln rfl ?_
    refine w_mul ⟨by omega, by omega⟩ ?_
    refine w_add ⟨by omega, by omega⟩ ?_
    refine w_iln rfl ?_
    refine w_add ⟨by omega, by omega⟩ ?_
    refine w_iald (v := M.1 s (232 + 11 * i.toNat)) gs rfl (by omega) (by show (232 : Int) + 11 * i + 0 < ((537 : Nat) : Int); omega) ((congrFun es _).trans (congrArg (M.1 s) (by show ((232 : Int) + 11 * i + 0).toNat = _; omega))) ?_
    refine w_iret (fun q => by cases q) ?_
    refine w_add ⟨by omega, by omega⟩ ?_
    refine w_isn ?_
    refine w_ii rfl ⟨by omega, by omega⟩ ?_
    refine w_goto ?_
    rw [show ye_sm (fun t => M.1 s (232 + 11 * t)) i.toNat + M.1 s (232 + 11 * i.toNat) = ye_sm (fun t => M.1 s (232 + 11 * t)) (i + 1).toNat by rw [show (i + 1).toNat = i.toNat + 1 by omega]; rfl]
    exact ih (i + 1) _ _ (by omega) (by omega)
set_option maxRecDepth 100000 in
set_option maxHeartbeats 2000000 in
theorem lr_X12_year {G : mj_G} {M : mj_M} {x m tp s kp bc bt kc kr : Nat} {w : Nat → Nat} {z1 : Int} (hK : lq_W G M m s kp kc w) (hI : lp_I G M x m tp s kp bc bt kc kr w) (hz1 : mj_in z1) : mj_R mj_tab 40 261 [.inr (.inr (some m)), .inl z1] G M (fun r _ _ => r = some (.inl (lr_year (M.1 s) z1))) := by
  have gm := hI.gm
  have gs := hI.gs
  have m6 := hI.m6
  have b0 := hI.b0
  have bz1 : (-2147483648 : Int) ≤ z1 ∧ z1 < 2147483648 := hz1
  have hrn := hK.rn.1
  have hm2 : M.1 s 221 ≠ 0 → 0 ≤ M.1 s 222 ∧ M.1 s 222 ≤ 12 := hK.m2
  have hm3 : M.1 s 221 = 0 ∨ (M.1 s 221 = 1 ∧ 0 ≤ M.1 s 222 ∧ M.1 s 222 ≤ 12) := by
    rcases hrn with e | e
    · exact Or.inl e
    · exact Or.inr ⟨e, hm2 (by omega)⟩
  refine ⟨Nat.le_of_ble_eq_true rfl, ?_⟩
  show wz 39 mt_X12_year.2.2.2.2.1 _ mt_X12_year.2.2.2.2.1 [some (.inr (.inr (some m))), some (.inl z1), none, none] [] G M _ _
  refine w_aln rfl ?_
  refine w_ic ?_
  refine w_pi gm rfl (by decide) rfl (fun q => by cases q) ?_
  refine w_aln rfl ?_
  refine w_gr gm rfl (by decide) rfl (m6) ?_
  refine w_sp ?_
  refine w_iald (v := (M.1 s 221)) gs rfl (by show (0 : Int) ≤ 221; omega) (by show 221 < ((537 : Nat) : Int); omega) ((hn_n (Or.inl (hn_ne gs gm (by decide)))).trans (congrArg (M.1 s) (by show (221 : Int).toNat = 221; omega))) ?_
  refine w_ifeq (fun c1 => ?_) (fun c1 => ?_)
  · skip
    refine w_sp ?_
    exact w_iret (fun q => by cases q) (by show some (Sum.inl _) = some (Sum.inl _); unfold lr_year; rw [if_neg (by omega)])
  · skip
    refine w_iln rfl ?_
    refine w_ic ?_
    refine w_bp ?_
    refine w_cs (st := []) rfl (Nat.le_of_ble_eq_true rfl) (fun kk h => h) ⟨Nat.le_of_ble_eq_true rfl, ?_⟩
    show wz (38) mt_X12_isIn.2.2.2.2.1 _ mt_X12_isIn.2.2.2.2.1 [some (.inl z1), some (.inl 0), some (.inl 10)] [] _ _ _ _
    refine w_iln rfl ?_
    refine w_iln rfl ?_
    refine w_cmlt (fun c2 => ?_) (fun c2 => ?_)
    · skip
      refine w_ic ?_
      refine w_iret (fun _ => Or.inl rfl) ?_
      refine w_ifne (fun c3 => ?_) (fun c3 => ?_)
      · exfalso; omega
      · skip
        refine w_sp ?_
        exact w_iret (fun q => by cases q) (by show some (Sum.inl _) = some (Sum.inl _); unfold lr_year; rw [if_neg (by omega)])
    · skip
      refine w_iln rfl ?_
      refine w_iln rfl ?_
      refine w_cmgt (fun c4 => ?_) (fun c4 => ?_)
      · skip
        refine w_ic ?_
        refine w_iret (fun _ => Or.inl rfl) ?_
        refine w_ifne (fun c5 => ?_) (fun c5 => ?_)
        · exfalso; omega
        · skip
          refine w_sp ?_
          exact w_iret (fun q => by cases q) (by show some (Sum.inl _) = some (Sum.inl _); unfold lr_year; rw [if_neg (by omega)])
      · skip
        refine w_ic ?_
        refine w_goto ?_
        refine w_iret (fun _ => Or.inr rfl) ?_
        refine w_ifne (fun c6 => ?_) (fun c6 => ?_)
        · skip
          refine w_ic ?_
          refine w_isn ?_
          show wz _ _ _ _ [some (.inr (.inr (some m))), some (.inl z1), some (.inl 0), none] _ _ _ _ _
          refine w_ic ?_
          refine w_isn ?_
          show wz _ _ _ _ [some (.inr (.inr (some m))), some (.inl z1), some (.inl 0), some (.inl 0)] _ _ _ _ _
          refine r_yrB gm gs m6 b0 (hK.pd hI.T.1 (by omega)).1 (fun cb sb => ?_) (M.1 s 0).toNat 0 _ _ (by omega) (by decide)
          rw [← ye_sm_z (fn := fun t => M.1 s (232 + 11 * t)) (fun t h1 h2 => (hK.pd hI.T.1 (by omega)).2 t h2 (by omega)) 8 (by omega) (Nat.le_refl 8)]
          refine w_iln rfl ?_
          refine w_bp ?_
          refine w_cmge (fun c7 => ?_) (fun c7 => ?_)
          · skip
            refine w_iln rfl ?_
            refine w_bp ?_
            refine w_cmne (fun c8 => ?_) (fun c8 => ?_)
            · skip
              refine w_iln rfl ?_
              refine w_bp ?_
              refine w_cmne (fun c9 => ?_) (fun c9 => ?_)
              · skip
                refine w_aln rfl ?_
                refine w_gr gm rfl (by decide) rfl (m6) ?_
                refine w_sp ?_
                refine w_iald (v := (M.1 s 231)) gs rfl (by show (0 : Int) ≤ 231; omega) (by show 231 < ((537 : Nat) : Int); omega) ((hn_n (Or.inl (hn_ne gs gm (by decide)))).trans (congrArg (M.1 s) (by show (231 : Int).toNat = 231; omega))) ?_
                exact w_iret (fun q => by cases q) (by show some (Sum.inl _) = some (Sum.inl _); unfold lr_year; rw [if_pos ⟨by omega, by omega, by omega⟩, if_neg (by omega), if_neg (by omega), if_neg (by omega)])
              · skip
                refine w_aln rfl ?_
                refine w_gr gm rfl (by decide) rfl (m6) ?_
                refine w_sp ?_
                refine w_iald (v := (M.1 s 230)) gs rfl (by show (0 : Int) ≤ 230; omega) (by show 230 < ((537 : Nat) : Int); omega) ((hn_n (Or.inl (hn_ne gs gm (by decide)))).trans (congrArg (M.1 s) (by show (230 : Int).toNat = 230; omega))) ?_
                refine w_goto ?_
                exact w_iret (fun q => by cases q) (by show some (Sum.inl _) = some (Sum.inl _); unfold lr_year; rw [if_pos ⟨by omega, by omega, by omega⟩, if_neg (by omega), if_neg (by omega), if_pos (by omega)])
            · skip
              refine w_iln rfl ?_
              refine w_goto ?_
              exact w_iret (fun q => by cases q) (by show some (Sum.inl _) = some (Sum.inl _); unfold lr_year; rw [if_pos ⟨by omega, by omega, by omega⟩, if_neg (by omega), if_pos (by omega)])
          · skip
            refine w_aln rfl ?_
            refine w_gr gm rfl (by decide) rfl (m6) ?_
            refine w_sp ?_
            refine w_iln rfl ?_
            refine w_add ⟨by show (-2147483648 : Int) ≤ 222 + z1; omega, by show 222 + z1 < (2147483648 : Int); omega⟩ ?_
            refine w_iald (v := (M.1 s (z1 + 222).toNat)) gs rfl (by show (0 : Int) ≤ 222 + z1; omega) (by show 222 + z1 < ((537 : Nat) : Int); omega) ((hn_n (Or.inl (hn_ne gs gm (by decide)))).trans (congrArg (M.1 s) (by show (222 + z1).toNat = (z1 + 222).toNat; omega))) ?_
            refine w_goto ?_
            exact w_iret (fun q => by cases q) (by show some (Sum.inl _) = some (Sum.inl _); unfold lr_year; rw [if_pos ⟨by omega, by omega, by omega⟩, if_pos (by omega)])
        · exfalso; omega
theorem r_drC {G : mj_G} {M : mj_M} {x s : Nat} {w : Nat → Nat} {Q : mj_P} (gx : G x = (1011, 0)) (x1 : M.2.2 x 1 = some (w 29)) (gnw : G (w 29) = (1007, 0)) (y29 : M.2.2 (w 29) 3 = some (w 61)) (gy0 : G (w 61) = (1010, 0)) (gy1 : G (w (61 + 1)) = (42100, 12)) (r3 : M.2.2 (w 61) 3 = some (w (61 + 1))) (hV : yw_V M w 61 (ye_S (M.1 s) 0)) (hm : 0 ≤ M.1 s 222 ∧ M.1 s 222 ≤ 12) (h : Q (some (.inl (lr_db (M.1 s) (M.1 s 222).toNat))) G M) : ∀ (n : Nat) (i : Int) (cb sb : Nat), i + n = M.1 s 222 → 0 ≤ i → wz 39 mt_X11_droughts.2.2.2.2.1 Q (mt_X11_droughts.2.2.2.2.1.drop 11) [some (.inr (.inr (some x))), some (.inl (lr_db (M.1 s) i.toNat)), some (.inl i)] [] G M cb sb := by
  intro n
  induction n with
  | zero =>
    intro i cb sb e i0
    obtain rfl : i = M.1 s 222 := by omega
    refine w_iln rfl ?_
    refine w_aln rfl ?_
    refine w_gr gx rfl (by decide) rfl x1 ?_
    refine w_gr gnw rfl (by decide) rfl y29 ?_
    refine w_gi (v := M.1 s 222) gy0 rfl (by decide) rfl (hV.gf (j := 222) (by decide) (by decide) rfl) ?_
    refine w_cmge (fun c => ?_) (fun c => by exfalso; omega)
    refine w_iln rfl ?_
    exact w_iret (fun q => by cases q) h
  | succ n ih =>
    intro i cb sb e i0
    have et : (i + 1).toNat = i.toNat + 1 := by omega
    have ei : ((i.toNat : Nat) : Int) = i := by omega
    refine w_iln rfl ?_
    refine w_aln rfl ?_
    refine w_gr gx rfl (by decide) rfl x1 ?_
    refine w_gr gnw rfl (by decide) rfl y29 ?_
    refine w_gi (v := M.1 s 222) gy0 rfl (by decide) rfl (hV.gf (j := 222) (by decide) (by decide) rfl) ?_
    refine w_cmge (fun c => by exfalso; omega) (fun c => ?_)
    refine w_iln rfl ?_
    refine w_bp ?_
    refine w_cmge (fun c => by exfalso; omega) (fun c => ?_)
    refine w_aln rfl ?_
    refine w_gr gx rfl (by decide) rfl x1 ?_
    refine w_gr gnw rfl (by decide) rfl y29 ?_
    refine w_gr gy0 rfl (by decide) rfl r3 ?_
    refine w_iln rfl ?_
    refine w_iald (v := M.1 s (320 + 3 * i.toNat)) gy1 rfl (by omega) (by show i < ((12 : Nat) : Int); omega) (hV.l1 (by omega) (by omega) rfl) ?_
    refine w_bp ?_
    refine w_cmne (fun c8 => ?_) (fun c8 => ?_)
    · refine w_ii rfl ⟨by omega, by omega⟩ ?_
      refine w_goto ?_
      rw [show lr_db (M.1 s) i.toNat = lr_db (M.1 s) (i + 1).toNat by rw [et]; exact (if_neg c8).symm]
      exact ih (i + 1) _ _ (by omega) (by omega)
    · refine w_iln rfl ?_
      refine w_ic ?_
      refine w_iln rfl ?_
      refine w_shl ?_
      intro y1 hy1 ey1
      refine w_or ?_
      intro y2 hy2 ey2
      refine w_isn ?_
      refine w_ii rfl ⟨by omega, by omega⟩ ?_
      refine w_goto ?_
      rw [show y2 = lr_db (M.1 s) (i + 1).toNat by rw [et, ey2, ey1, ← ei]; exact (if_pos c8).symm]
      exact ih (i + 1) _ _ (by omega) (by omega)
theorem r_drR {G : mj_G} {M : mj_M} {m s : Nat} {Q : mj_P} (gm : G m = (1012, 0)) (gs : G s = (51100, 537)) (m6 : M.2.2 m 6 = some s) (hm : 0 ≤ M.1 s 222 ∧ M.1 s 222 ≤ 12) (h : Q (some (.inl (lr_db (M.1 s) (M.1 s 222).toNat))) G (mj_p0 M m 0 0)) : ∀ (n : Nat) (i : Int) (cb sb : Nat), i + n = M.1 s 222 → 0 ≤ i → mj_in (lr_db (M.1 s) i.toNat) → wz 39 mt_X12_droughts.2.2.2.2.1 Q (mt_X12_droughts.2.2.2.2.1.drop 14) [some (.inr (.inr (some m))), some (.inl (lr_db (M.1 s) i.toNat)), some (.inl i)] [] G (mj_p0 M m 0 0) cb sb := by
  have sm : s ≠ m := hn_ne gs gm (by decide)
  have es : (mj_p0 M m 0 0).1 s = M.1 s := wz_c sm
  intro n
  induction n with
  | zero =>
    intro i cb sb e i0 hi
    obtain rfl : i = M.1 s 222 := by omega
    refine w_iln rfl ?_
    refine w_aln rfl ?_
    refine w_gr gm rfl (by decide) rfl m6 ?_
    refine w_sp ?_
    refine w_iald (v := M.1 s 222) gs rfl (by decide) (by decide) (congrFun es 222) ?_
    refine w_cmge (fun c => ?_) (fun c => by exfalso; omega)
    refine w_iln rfl ?_
    exact w_iret (fun q => by cases q) h
  | succ n ih =>
    intro i cb sb e i0 hi
    have et : (i + 1).toNat = i.toNat + 1 := by omega
    have ei : ((i.toNat : Nat) : Int) = i := by omega
    refine w_iln rfl ?_
    refine w_aln rfl ?_
    refine w_gr gm rfl (by decide) rfl m6 ?_
    refine w_sp ?_
    refine w_iald (v := M.1 s 222) gs rfl (by decide) (by decide) (congrFun es 222) ?_
    refine w_cmge (fun c => by exfalso; omega) (fun c => ?_)
    refine w_iln rfl ?_
    refine w_aln rfl ?_
    refine w_gr gm rfl (by decide) rfl m6 ?_
    refine w_sp ?_
    refine w_ic ?_
    refine w_iln rfl ?_
    refine w_mul ⟨by omega, by omega⟩ ?_
    refine w_add ⟨by omega, by omega⟩ ?_
    refine w_iald (v := M.1 s (320 + 3 * i.toNat)) gs rfl (by omega) (by show (320 : Int) + 3 * i < ((537 : Nat) : Int); omega) ((congrFun es _).trans (congrArg (M.1 s) (by omega))) ?_
    refine w_bp ?_
    refine w_cmne (fun c8 => ?_) (fun c8 => ?_)
    · refine w_ic ?_
      refine w_or ?_
      intro y2 hy2 ey2
      refine w_isn ?_
      refine w_ii rfl ⟨by omega, by omega⟩ ?_
      refine w_goto ?_
      have e2 : y2 = lr_db (M.1 s) (i + 1).toNat := by rw [et, ey2, ye_or0 hi]; exact (if_neg c8).symm
      rw [e2]
      rw [e2] at hy2
      exact ih (i + 1) _ _ (by omega) (by omega) hy2
    · refine w_ic ?_
      refine w_iln rfl ?_
      refine w_shl ?_
      intro y1 hy1 ey1
      refine w_goto ?_
      refine w_or ?_
      intro y2 hy2 ey2
      refine w_isn ?_
      refine w_ii rfl ⟨by omega, by omega⟩ ?_
      refine w_goto ?_
      have e2 : y2 = lr_db (M.1 s) (i + 1).toNat := by rw [et, ey2, ey1, ← ei]; exact (if_pos c8).symm
      rw [e2]
      rw [e2] at hy2
      exact ih (i + 1) _ _ (by omega) (by omega) hy2
set_option maxRecDepth 100000 in
set_option maxHeartbeats 2000000 in
theorem lr_X11_droughts {G : mj_G} {M : mj_M} {x m tp s kp bc bt kc kr : Nat} {w : Nat → Nat} (hK : lq_W G M m s kp kc w) (hI : lp_I G M x m tp s kp bc bt kc kr w) : mj_R mj_tab 40 120 [.inr (.inr (some x))] G M (fun r _ _ => r = some (.inl (lr_droughts (M.1 s)))) := by
  obtain ⟨hA, hB, p, q, hN, hG6, -⟩ := hI.J
  have hG := hG6.1
  have hG5 := hG6
  obtain ⟨gpl, gna, gta, gba, gwa, gtr, gbr, itr, ibr, p0, p1, p2, p3, rt, rb⟩ := lq_K hA hB hN.pin.1
  have gx := hI.gx
  have gnw := hA.2.2.1
  have b0 := hI.b0
  have gy := hK.1 61 (by decide)
  have rY := hK.2.1.1 61 (by decide)
  have y29 := hK.2.1.2.1
  have h221 : M.1 (w 61) 0 = M.1 s 221 := hK.2.2.2.1.1.1
  have hV : M.1 s 221 ≠ 0 → yw_V M w 61 (ye_S (M.1 s) 0) := hK.yV
  have hrn := hK.rn.1
  have hm2 : M.1 s 221 ≠ 0 → 0 ≤ M.1 s 222 ∧ M.1 s 222 ≤ 12 := hK.m2
  have hm3 : M.1 s 221 = 0 ∨ (M.1 s 221 = 1 ∧ 0 ≤ M.1 s 222 ∧ M.1 s 222 ≤ 12) := by
    rcases hrn with e | e
    · exact Or.inl e
    · exact Or.inr ⟨e, hm2 (by omega)⟩
  refine ⟨Nat.le_of_ble_eq_true rfl, ?_⟩
  show wz 39 mt_X11_droughts.2.2.2.2.1 _ mt_X11_droughts.2.2.2.2.1 [some (.inr (.inr (some x))), none, none] [] G M _ _
  refine w_aln rfl ?_
  refine w_gr gx rfl (by decide) rfl (hB.2.1) ?_
  refine w_gr gnw rfl (by decide) rfl (y29) ?_
  refine w_gi gy.1 rfl (by decide) rfl (h221) ?_
  refine w_ifne (fun c1 => ?_) (fun c1 => ?_)
  · skip
    refine w_ic ?_
    refine w_isn ?_
    show wz _ _ _ _ [some (.inr (.inr (some x))), some (.inl 0), none] _ _ _ _ _
    refine w_ic ?_
    refine w_isn ?_
    show wz _ _ _ _ [some (.inr (.inr (some x))), some (.inl 0), some (.inl 0)] _ _ _ _ _
    exact r_drC gx hB.2.1 gnw y29 gy.1 gy.2.1 rY.1 (hV (by omega)) (hm2 (by omega)) (by show some (Sum.inl _) = some (Sum.inl _); unfold lr_droughts; rw [if_pos (by omega)]) (M.1 s 222).toNat 0 _ _ (by have := hm2 (by omega); omega) (by decide)
  · skip
    refine w_ic ?_
    exact w_iret (fun q => by cases q) (by show some (Sum.inl _) = some (Sum.inl _); unfold lr_droughts; rw [if_neg (by omega)])
set_option maxRecDepth 100000 in
set_option maxHeartbeats 2000000 in
theorem lr_X12_droughts {G : mj_G} {M : mj_M} {x m tp s kp bc bt kc kr : Nat} {w : Nat → Nat} (hK : lq_W G M m s kp kc w) (hI : lp_I G M x m tp s kp bc bt kc kr w) : mj_R mj_tab 40 183 [.inr (.inr (some m))] G M (fun r _ _ => r = some (.inl (lr_droughts (M.1 s)))) := by
  have gm := hI.gm
  have gs := hI.gs
  have m6 := hI.m6
  have b0 := hI.b0
  have hrn := hK.rn.1
  have hm2 : M.1 s 221 ≠ 0 → 0 ≤ M.1 s 222 ∧ M.1 s 222 ≤ 12 := hK.m2
  have hm3 : M.1 s 221 = 0 ∨ (M.1 s 221 = 1 ∧ 0 ≤ M.1 s 222 ∧ M.1 s 222 ≤ 12) := by
    rcases hrn with e | e
    · exact Or.inl e
    · exact Or.inr ⟨e, hm2 (by omega)⟩
  refine ⟨Nat.le_of_ble_eq_true rfl, ?_⟩
  show wz 39 mt_X12_droughts.2.2.2.2.1 _ mt_X12_droughts.2.2.2.2.1 [some (.inr (.inr (some m))), none, none] [] G M _ _
  refine w_aln rfl ?_
  refine w_ic ?_
  refine w_pi gm rfl (by decide) rfl (fun q => by cases q) ?_
  refine w_aln rfl ?_
  refine w_gr gm rfl (by decide) rfl (m6) ?_
  refine w_sp ?_
  refine w_iald (v := (M.1 s 221)) gs rfl (by show (0 : Int) ≤ 221; omega) (by show 221 < ((537 : Nat) : Int); omega) ((hn_n (Or.inl (hn_ne gs gm (by decide)))).trans (congrArg (M.1 s) (by show (221 : Int).toNat = 221; omega))) ?_
  refine w_ifne (fun c1 => ?_) (fun c1 => ?_)
  · skip
    refine w_ic ?_
    refine w_isn ?_
    show wz _ _ _ _ [some (.inr (.inr (some m))), some (.inl 0), none] _ _ _ _ _
    refine w_ic ?_
    refine w_isn ?_
    show wz _ _ _ _ [some (.inr (.inr (some m))), some (.inl 0), some (.inl 0)] _ _ _ _ _
    exact r_drR gm gs m6 (hm2 (by omega)) (by show some (Sum.inl _) = some (Sum.inl _); unfold lr_droughts; rw [if_pos (by omega)]) (M.1 s 222).toNat 0 _ _ (by have := hm2 (by omega); omega) (by decide) (show mj_in 0 from ⟨by decide, by decide⟩)
  · skip
    refine w_ic ?_
    exact w_iret (fun q => by cases q) (by show some (Sum.inl _) = some (Sum.inl _); unfold lr_droughts; rw [if_neg (by omega)])
