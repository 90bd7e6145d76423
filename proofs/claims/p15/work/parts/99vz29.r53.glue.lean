/-! ===== offer, undo, as the invariant sees them ===== -/
def lq_T (M : mj_M) (s kp kr : Nat) : Prop := rv_r6 (M.1 s) 0 ∧ ∀ k, k < 2 → M.1 kr k ≠ 0 → rv_r6 (M.1 kp) (538 * k)
section SB
variable {G : mj_G} {M M' : mj_M} {w : Nat → Nat} {x m s kp kc kr p q R t v : Nat} {n : Int} {H : Nat → Int}
theorem rv_G6.set (h : rv_G6 H 0 w p M) (hA : lq_A G w) (hp : p ∈ lq_Ps) (ht : t < 8) (hv : v < 12) (sb : lq_sb w p t v n M M') : rv_G6 (rv_up H (88 + 12 * t + v) n) 0 w p M' := by
  obtain ⟨⟨h1, h2, h3, h4, h5, h6⟩, h7, h8⟩ := h
  obtain ⟨-, s2, s3, s4, s5⟩ := sb
  obtain ⟨g1, -, -, -, g5, g6, g7⟩ := hA.2.1 p hp
  have hP := lq_P4 hp
  have up : ∀ k, k ≠ 88 + 12 * t + v → rv_up H (88 + 12 * t + v) n k = H k := fun k hk => rv_up_n hk
  have H7 : H (88 + 12 * t + v) = M.1 (w (p + 12 + t)) v := by have := h7 t v ht hv; rw [Nat.zero_add] at this; exact this
  refine ⟨⟨(up _ (by omega)).trans (h1.trans (s3 4 (by decide)).symm), (up _ (by omega)).trans (h2.trans (s3 6 (by decide)).symm), (up _ (by omega)).trans (h3.trans (s3 7 (by decide)).symm), (up _ (by omega)).trans (h4.trans (s3 8 (by decide)).symm), fun t' v' ht' hv' => ?_, fun v' hv' => ?_⟩, fun t' v' ht' hv' => ?_, ?_⟩
  · rw [up _ (by omega), s2 _ (hn_ne (g6 t' ht') g1 (by decide)) (hn_ne (g6 t' ht') (g7 t ht) (by decide))]; exact h5 t' v' ht' hv'
  · rw [up _ (by omega), s2 _ (hn_ne g5 g1 (by decide)) (hn_ne g5 (g7 t ht) (by decide))]; exact h6 v' hv'
  · by_cases e : t' = t
    · subst e
      rw [s5]
      by_cases e2 : v' = v
      · subst e2; rw [Nat.zero_add, rv_up_s, rv_up_s]
      · rw [rv_up_n e2, up _ (by omega)]; exact h7 t' v' ht' hv'
    · rw [up _ (by omega), s2 _ (hn_ne (g7 t' ht') g1 (by decide)) (fun q => by have := hA.1 _ _ (by omega) (by omega) q; omega)]
      exact h7 t' v' ht' hv'
  · rw [s4, h8, ← H7]
    have e1 : lq_ct (fun i => H (0 + (88 + i))) 96 = lq_ct (fun i => H (88 + i)) 96 := lq_ct_cg 96 (fun i _ => by rw [Nat.zero_add])
    have e2 : lq_ct (fun i => rv_up H (88 + 12 * t + v) n (0 + (88 + i))) 96 = lq_ct (fun i => rv_up H (88 + 12 * t + v) n (88 + i)) 96 := lq_ct_cg 96 (fun i _ => by rw [Nat.zero_add])
    rw [e1, e2, lq_ct_s (by omega) (by omega)]
theorem lq_sb.E (sb : lq_sb w p t v n M M') (hA : lq_A G w) (hp : p ∈ lq_Ps) (ht : t < 8) (hR : R ∈ lq_Ps) (hne : R ≠ p) : lq_E6 w R M M' := by
  have h4 := lq_P4 hp
  have h5 := lq_P4 hR
  have key : ∀ u, R ≤ u → u < R + 22 → M'.1 (w u) = M.1 (w u) := fun u h1 h2 => sb.2.1 _ (fun e => by have := hA.1 _ _ (by omega) (by omega) e; omega) (fun e => by have := hA.1 _ _ (by omega) (by omega) e; omega)
  have k0 := key R (by omega) (by omega)
  exact ⟨⟨⟨by rw [k0], by rw [k0], by rw [k0], by rw [k0]⟩, fun t v ht hv => by rw [key (R + 3 + t) (by omega) (by omega)], fun v hv => by rw [key (R + 20) (by omega) (by omega)]⟩, by rw [k0], fun t v ht hv => by rw [key (R + 12 + t) (by omega) (by omega)]⟩
/-- cells of PLAINS are as they were -/
theorem lq_E6.of (hR : R ∈ lq_Ps) (h : ∀ u, R ≤ u → u < R + 22 → M'.1 (w u) = M.1 (w u)) : lq_E6 w R M M' := by
  have k0 := h R (by omega) (by omega)
  exact ⟨⟨⟨by rw [k0], by rw [k0], by rw [k0], by rw [k0]⟩, fun t v ht hv => by rw [h (R + 3 + t) (by omega) (by omega)], fun v hv => by rw [h (R + 20) (by omega) (by omega)]⟩, by rw [k0], fun t v ht hv => by rw [h (R + 12 + t) (by omega) (by omega)]⟩
theorem lq_A.tg (hA : lq_A G w) (hR : R ∈ lq_Ps) : ∀ u, R ≤ u → u < R + 21 → ∃ n, G (w u) = (1004, n) ∨ G (w u) = (24103, n) ∨ G (w u) = (25104, n) ∨ G (w u) = (26100, n) ∨ G (w u) = (27104, n) ∨ G (w u) = (28100, n) ∨ G (w u) = (29100, n) := by
  intro u h1 h2
  obtain ⟨g1, g2, g3, g4, g5, g6, g7⟩ := hA.2.1 R hR
  have : u = R ∨ u = R + 1 ∨ u = R + 2 ∨ (R + 3 ≤ u ∧ u < R + 11) ∨ u = R + 11 ∨ (R + 12 ≤ u ∧ u < R + 20) ∨ u = R + 20 := by omega
  rcases this with rfl | rfl | rfl | h | rfl | h | rfl
  · exact ⟨_, Or.inl g1⟩
  · exact ⟨_, Or.inr (Or.inl g2)⟩
  · exact ⟨_, Or.inr (Or.inr (Or.inl g3))⟩
  · have := g6 (u - R - 3) (by omega)
    rw [show R + 3 + (u - R - 3) = u by omega] at this
    exact ⟨_, Or.inr (Or.inr (Or.inr (Or.inl this)))⟩
  · exact ⟨_, Or.inr (Or.inr (Or.inr (Or.inr (Or.inl g4))))⟩
  · have := g7 (u - R - 12) (by omega)
    rw [show R + 12 + (u - R - 12) = u by omega] at this
    exact ⟨_, Or.inr (Or.inr (Or.inr (Or.inr (Or.inr (Or.inl this)))))⟩
  · exact ⟨_, Or.inr (Or.inr (Or.inr (Or.inr (Or.inr (Or.inr g5)))))⟩
/-- a cell of another sort is none of a PLAIN's -/
theorem lq_A.ne (hA : lq_A G w) (hR : R ∈ lq_Ps) {a t n : Nat} (ga : G a = (t, n)) (h1 : t ≠ 1004) (h2 : t ≠ 24103) (h3 : t ≠ 25104) (h4 : t ≠ 26100) (h5 : t ≠ 27104) (h6 : t ≠ 28100) (h7 : t ≠ 29100) : ∀ u, R ≤ u → u < R + 21 → w u ≠ a := by
  intro u a1 a2 e
  obtain ⟨k, h⟩ := hA.tg hR u a1 a2
  rw [e, ga] at h
  rcases h with h | h | h | h | h | h | h
  all_goals
    have := congrArg Prod.fst h
    omega
/-- cells but those of some sorts are as they were: so is every PLAIN -/
theorem lq_E6.by (hA : lq_A G w) (hR : R ∈ lq_Ps) (h : ∀ u, R ≤ u → u < R + 21 → M'.1 (w u) = M.1 (w u)) : lq_E6 w R M M' := by
  have k0 := h R (by omega) (by omega)
  exact ⟨⟨⟨by rw [k0], by rw [k0], by rw [k0], by rw [k0]⟩, fun t v ht hv => by rw [h (R + 3 + t) (by omega) (by omega)], fun v hv => by rw [h (R + 20) (by omega) (by omega)]⟩, by rw [k0], fun t v ht hv => by rw [h (R + 12 + t) (by omega) (by omega)]⟩
theorem lq_J.of (hJ : lq_J G M x s kp kc w) (e2 : M'.2.2 = M.2.2) (ek : M'.1 kp = M.1 kp) (ec : M'.1 kc = M.1 kc) (H1 : ∀ p q, lq_N M w p q → rv_G6 (M.1 s) 0 w p M → rv_G6 (M'.1 s) 0 w p M') (H2 : ∀ p q, lq_N M w p q → ∀ k, k < 2 → lq_E6 w (lq_ip k) M M') : lq_J G M' x s kp kc w := by
  obtain ⟨hA, hB, p, q, hN, h1, h2⟩ := hJ
  refine ⟨hA, by unfold lq_B; rw [e2]; exact hB, p, q, by unfold lq_N; rw [e2]; exact hN, H1 p q hN h1, fun k hk h0 => ?_⟩
  rw [ec] at h0; rw [ek]
  exact (h2 k hk h0).cg (H2 p q hN k hk) (fun _ _ => rfl)
end SB
/-! what the undone are behind an offer -/
theorem lq_Uz.off {U U' H : Nat → Int} {z z' h j : Nat} {k o n : Int} (hU : lq_Uz U H z) (hz : lq_zs z z' h) (r6 : rv_r6 H 0) (ok : lq_ok H k o n) (hj : j = (12 * k + o + 88).toNat) (u1 : ∀ i, i < 3 * z' → U' i = U (i + 3 * h)) (u2 : U' (3 * z') = k) (u3 : U' (3 * z' + 1) = o) (u4 : U' (3 * z' + 2) = H j) : lq_Uz U' (rv_up H j n) (z' + 1) ∧ lq_ct (fun i => rv_up H j n (88 + i)) 96 ≤ 40 := by
  obtain ⟨q1, q2, q3⟩ := hU
  obtain ⟨⟨k1, k2⟩, ⟨o1, o2⟩, ⟨n1, n2⟩, hc⟩ := ok
  have b8 := r6.1.1.2
  have b6 := r6.2.1 k.toNat o.toNat (by omega) (by omega)
  rw [show 0 + (88 + 12 * k.toNat + o.toNat) = j by omega] at b6
  have ct := q2.ct
  have hct : lq_ct (fun i => rv_up H j n (88 + i)) 96 ≤ 40 := by
    rw [lq_ct_s (by omega) (by omega)]
    rw [← hj] at hc
    split <;> split <;> omega
  have n0 : rv_up H j n 0 = H 0 := rv_up_n (by omega)
  have hb : ∀ i, i < 96 → rv_up (fun i => rv_up H j n (88 + i)) (12 * k + o).toNat (H j) i = H (88 + i) := by
    intro i hi
    by_cases e : i = (12 * k + o).toNat
    · rw [e, rv_up_s]; congr 1; omega
    · rw [rv_up_n e]; exact rv_up_n (by omega)
  have hs : lq_hs U' z' (fun i => H (88 + i)) := by
    rcases hz with ⟨z1, rfl, rfl⟩ | ⟨rfl, rfl, rfl⟩
    · exact q2.cg (fun i hi => (u1 i hi).trans (by rw [Nat.mul_zero, Nat.add_zero])) (fun _ _ => rfl)
    · exact (lq_hs.sh q2).cg (fun i hi => u1 i hi) (fun _ _ => rfl)
  refine ⟨⟨by rcases hz with ⟨z1, rfl, rfl⟩ | ⟨rfl, rfl, rfl⟩ <;> omega, ⟨hct, ?_⟩, fun i hi => ?_⟩, hct⟩
  · rw [u2, u3, u4]
    exact hs.cg (fun _ _ => rfl) hb
  · rw [n0]
    rcases Nat.lt_or_ge i z' with q | q
    · have hi3 : i + h < z := by rcases hz with ⟨z1, rfl, rfl⟩ | ⟨rfl, rfl, rfl⟩ <;> omega
      have := q3 (i + h) hi3
      rw [u1 (3 * i) (by omega), u1 (3 * i + 1) (by omega), u1 (3 * i + 2) (by omega)]
      rw [show 3 * i + 3 * h = 3 * (i + h) by omega, show 3 * i + 1 + 3 * h = 3 * (i + h) + 1 by omega, show 3 * i + 2 + 3 * h = 3 * (i + h) + 2 by omega]
      exact this
    · have e : i = z' := by omega
      subst e
      rw [u2, u3, u4]
      exact ⟨⟨k1, k2⟩, ⟨o1, by omega⟩, b6.1, b6.2.1⟩
theorem lq_Uz.back {U H : Nat → Int} {y j : Nat} (hU : lq_Uz U H (y + 1)) (hj : j = (88 + 12 * U (3 * y) + U (3 * y + 1)).toNat) (b8 : H 0 ≤ 8) : lq_Uz U (rv_up H j (U (3 * y + 2))) y ∧ lq_ct (fun i => rv_up H j (U (3 * y + 2)) (88 + i)) 96 ≤ 40 := by
  obtain ⟨q1, q2, q3⟩ := hU
  have b := q3 y (by omega)
  have n0 : rv_up H j (U (3 * y + 2)) 0 = H 0 := rv_up_n (by omega)
  have hs : lq_hs U y (fun i => rv_up H j (U (3 * y + 2)) (88 + i)) := q2.2.cg (fun _ _ => rfl) (fun i hi => by
    by_cases e : i = (12 * U (3 * y) + U (3 * y + 1)).toNat
    · rw [e, rv_up_s, show 88 + (12 * U (3 * y) + U (3 * y + 1)).toNat = j by omega, rv_up_s]
    · rw [rv_up_n e]; exact rv_up_n (by omega))
  refine ⟨⟨by omega, hs, fun i hi => ?_⟩, hs.ct⟩
  rw [n0]; exact q3 i (by omega)
section OU
variable {G : mj_G} {M M1 M2 M' : mj_M} {w : Nat → Nat} {x m s kp kc kr tp : Nat} {z1 z2 z3 : Int}
/-- between offer of the class and of the reference -/
def lq_o (w : Nat → Nat) (s m : Nat) (z1 z2 z3 : Int) (M M' : mj_M) (r : Int) : Prop := (¬ lq_ok (M.1 s) z1 z2 z3 ∧ r = 0 ∧ M' = M) ∨ (lq_ok (M.1 s) z1 z2 z3 ∧ r = 1 ∧ ∃ p q z z' h M1, lq_N M w p q ∧ M.1 m 28 = ((z : Nat) : Int) ∧ lq_zs z z' h ∧ lq_kp w z' h z1 z2 (M.1 s (12 * z1 + z2 + 88).toNat) M M1 ∧ lq_sb w p z1.toNat z2.toNat z3 M1 M')
theorem lq_of1 (gx : G x = (1011, 0)) (hJ : lq_J G M x s kp kc w) (hT : lq_T M s kp kr) (hU : lq_U G M x m s w) : mj_R mj_tab 40 136 [.inr (.inr (some x)), .inl z1, .inl z2, .inl z3] G M (fun r G' M' => G' = G ∧ ∃ y, r = some (.inl y) ∧ lq_o w s m z1 z2 z3 M M' y) := by
  obtain ⟨hA, hB, p, q, hN, h1, -⟩ := hJ
  obtain ⟨hUA, hUB, z, u1, u2, u3⟩ := hU
  exact r_X11_offer5 (d := 37) gx hA hB hN hUA hUB h1 hT.1.1.1 u2.1 u3.1 (fun no => ⟨rfl, 0, rfl, Or.inl ⟨no, rfl, rfl⟩⟩) (fun ok z' h' M1 M2 hz hk hs => ⟨rfl, 1, rfl, Or.inr ⟨ok, rfl, p, q, z, z', h', M1, hN, u1, hz, hk, hs⟩⟩)
theorem lq_of2 (gx : G x = (1011, 0)) (gm : G m = (1012, 0)) (gs : G s = (51100, 537)) (gk : G kp = (70100, 1076)) (gkc : G kc = (48102, 2)) (gkr : G kr = (72102, 2)) (m6 : M.2.2 m 6 = some s) (hJ : lq_J G M x s kp kc w) (hT : lq_T M s kp kr) (hU : lq_U G M x m s w) {y : Int} (ho : lq_o w s m z1 z2 z3 M M1 y) : mj_R mj_tab 40 220 [.inr (.inr (some m)), .inl z1, .inl z2, .inl z3] G M1 (fun r G' M' => G' = G ∧ r = some (.inl y) ∧ lq_J G M' x s kp kc w ∧ lq_T M' s kp kr ∧ lq_U G M' x m s w) := by
  obtain ⟨hUA, hUB, z, u1, u2, u3, u4⟩ := id hU
  obtain ⟨gud, gut, gum, gub, gun⟩ := id hUA
  have hA := hJ.1
  rcases ho with ⟨no, rfl, rfl⟩ | ⟨ok, rfl, p, q, z0, z', h, Mk, hN, e28, hz, hk, hs⟩
  · refine r_X12_offer5 (d := 37) gm gs gun m6 hUB.2.2.2.2 hT.1.1.1 (u2.2.1.ct) u2.1 u1 (fun _ => ⟨rfl, rfl, ?_, ?_, ?_⟩) (fun ok => absurd ok no)
    · exact hJ.of rfl (wz_c (hn_ne gk gm (by decide))) (wz_c (hn_ne gkc gm (by decide))) (fun p q hN h1 => h1.cg (lq_E6.p0 hA hN.pin.1 gm (by decide) (by decide) (by decide) (by decide)) (fun k _ => by rw [wz_c (hn_ne gs gm (by decide))])) (fun p q hN k _ => lq_E6.p0 hA (lq_ip_in k) gm (by decide) (by decide) (by decide) (by decide))
    · unfold lq_T
      rw [wz_c (hn_ne gs gm (by decide)), wz_c (hn_ne gk gm (by decide)), wz_c (hn_ne gkr gm (by decide))]; exact hT
    · refine ⟨hUA, hUB, z, (hn_n (Or.inr (by decide))).trans u1, ?_, ?_⟩
      · rw [wz_c (hn_ne gun gm (by decide)), wz_c (hn_ne gs gm (by decide))]; exact u2
      · unfold lq_Uc
        rw [wz_c (hn_ne gud gm (by decide)), wz_c (hn_ne gut gm (by decide)), wz_c (hn_ne gum gm (by decide)), wz_c (hn_ne gub gm (by decide)), wz_c (hn_ne gun gm (by decide))]; exact ⟨u3, u4⟩
  · have hz0 : z0 = z := by omega
    subst hz0
    have hp := hN.pin.1
    obtain ⟨gpl, -, -, -, -, -, gbr⟩ := hA.2.1 p hp
    have kk := ok
    obtain ⟨⟨k1, k2⟩, ⟨o1, o2⟩, ⟨n1, n2⟩, -⟩ := kk
    have b8 := hT.1.1.1.2
    have gr := gbr z1.toNat (by omega)
    obtain ⟨hk1, hk2, hk3, hk4, hk5, hk6, hk7⟩ := id hk
    obtain ⟨hs1, hs2, hs3, hs4, hs5⟩ := id hs
    have cc : ∀ {a t n : Nat}, G a = (t, n) → t ≠ 1009 → t ≠ 39100 → t ≠ 40100 → t ≠ 41100 → t ≠ 1004 → t ≠ 28100 → M1.1 a = M.1 a := fun ga a1 a2 a3 a4 a5 a6 => (hs2 _ (hn_ne ga gpl a5) (hn_ne ga gr a6)).trans (hk2 _ (hn_ne ga gud a1) (hn_ne ga gut a2) (hn_ne ga gum a3) (hn_ne ga gub a4))
    have es : M1.1 s = M.1 s := cc gs (by decide) (by decide) (by decide) (by decide) (by decide) (by decide)
    have em : M1.1 m = M.1 m := cc gm (by decide) (by decide) (by decide) (by decide) (by decide) (by decide)
    have eu : M1.1 (w 344) = M.1 (w 344) := cc gun (by decide) (by decide) (by decide) (by decide) (by decide) (by decide)
    have ek : M1.1 kp = M.1 kp := cc gk (by decide) (by decide) (by decide) (by decide) (by decide) (by decide)
    have ec : M1.1 kc = M.1 kc := cc gkc (by decide) (by decide) (by decide) (by decide) (by decide) (by decide)
    have er : M1.1 kr = M.1 kr := cc gkr (by decide) (by decide) (by decide) (by decide) (by decide) (by decide)
    have e2 : M1.2 = M.2 := hs1.trans hk1
    have jj : 88 + 12 * z1.toNat + z2.toNat = (12 * z1 + z2 + 88).toNat := by omega
    refine r_X12_offer5 (d := 37) (z := z0) gm gs gun (by rw [e2]; exact m6) (by rw [e2]; exact hUB.2.2.2.2) (by rw [es]; exact hT.1.1.1) (by rw [es]; exact u2.2.1.ct) u2.1 (by rw [em]; exact u1) (fun no => absurd (by rw [es]; exact ok) no) (fun _ z9 h9 M3 hz9 hr => ?_)
    have hzz : z9 = z' ∧ h9 = h := by
      rcases hz with ⟨a1, rfl, rfl⟩ | ⟨a1, rfl, rfl⟩ <;> rcases hz9 with ⟨b1, rfl, rfl⟩ | ⟨b1, rfl, rfl⟩ <;> omega
    obtain ⟨rfl, rfl⟩ := hzz
    obtain ⟨r1, r2, r3, r4, r5, r6, r7, r8⟩ := hr
    have c3 : ∀ {a t n : Nat}, G a = (t, n) → t ≠ 1012 → t ≠ 57100 → t ≠ 51100 → M3.1 a = M1.1 a := fun ga a1 a2 a3 => r2 _ (hn_ne ga gm a1) (hn_ne ga gun a2) (hn_ne ga gs a3)
    have E1 : ∀ R, R ∈ lq_Ps → lq_E6 w R M Mk := fun R hR => lq_E6.by hA hR (fun u a b => hk2 _ (hA.ne hR gud (by decide) (by decide) (by decide) (by decide) (by decide) (by decide) (by decide) u a b) (hA.ne hR gut (by decide) (by decide) (by decide) (by decide) (by decide) (by decide) (by decide) u a b) (hA.ne hR gum (by decide) (by decide) (by decide) (by decide) (by decide) (by decide) (by decide) u a b) (hA.ne hR gub (by decide) (by decide) (by decide) (by decide) (by decide) (by decide) (by decide) u a b))
    have E3 : ∀ R, R ∈ lq_Ps → lq_E6 w R M1 M3 := fun R hR => lq_E6.by hA hR (fun u a b => r2 _ (hA.ne hR gm (by decide) (by decide) (by decide) (by decide) (by decide) (by decide) (by decide) u a b) (hA.ne hR gun (by decide) (by decide) (by decide) (by decide) (by decide) (by decide) (by decide) u a b) (hA.ne hR gs (by decide) (by decide) (by decide) (by decide) (by decide) (by decide) (by decide) u a b))
    have s3 : M3.1 s = rv_up (M.1 s) (12 * z1 + z2 + 88).toNat z3 := by rw [r8, es]
    have UU := u2.off (U' := M3.1 (w 344)) hz hT.1 ok rfl (fun i hi => by rw [r4 i hi, eu]) r5 r6 (by rw [r7, es])
    refine ⟨rfl, rfl, ?_, ⟨?_, fun k hk h0 => ?_⟩, hUA, ?_, _, r3, ?_, ?_⟩
    · refine hJ.of (by rw [r1, e2]) ((c3 gk (by decide) (by decide) (by decide)).trans ek) ((c3 gkc (by decide) (by decide) (by decide)).trans ec) (fun p9 q9 hN9 h1 => ?_) (fun p9 q9 hN9 k _ => ?_)
      · have hpp : p9 = p := by
          have := hN9.1.symm.trans hN.1
          have := hA.1 _ _ (by have := lq_P4 hN9.pin.1; omega) (by have := lq_P4 hp; omega) (Option.some.inj this)
          exact this
        subst hpp
        have G1 := (h1.cg (E1 p9 hp) (fun _ _ => rfl)).set hA hp (by omega) (by omega) hs
        rw [jj] at G1
        rw [s3]
        exact G1.cg (E3 p9 hp) (fun _ _ => rfl)
      · exact ((E1 _ (lq_ip_in k)).tr (hs.E hA hp (by omega) (lq_ip_in k) (fun e => hN.pin.2 k e.symm))).tr (E3 _ (lq_ip_in k))
    · rw [s3]
      exact hT.1.set (by omega) (by omega) ⟨n1, n2⟩ (by omega) UU.2
    · rw [(c3 gkr (by decide) (by decide) (by decide)).trans er] at h0
      rw [(c3 gk (by decide) (by decide) (by decide)).trans ek]
      exact hT.2 k hk h0
    · unfold lq_UB; rw [r1, e2]; exact hUB
    · rw [s3]; exact UU.1
    · have v1 : M3.1 (w 121) = Mk.1 (w 121) := (c3 gud (by decide) (by decide) (by decide)).trans (hs2 _ (hn_ne gud gpl (by decide)) (hn_ne gud gr (by decide)))
      have v2 : M3.1 (w 122) = Mk.1 (w 122) := (c3 gut (by decide) (by decide) (by decide)).trans (hs2 _ (hn_ne gut gpl (by decide)) (hn_ne gut gr (by decide)))
      have v3 : M3.1 (w 123) = Mk.1 (w 123) := (c3 gum (by decide) (by decide) (by decide)).trans (hs2 _ (hn_ne gum gpl (by decide)) (hn_ne gum gr (by decide)))
      have v4 : M3.1 (w 124) = Mk.1 (w 124) := (c3 gub (by decide) (by decide) (by decide)).trans (hs2 _ (hn_ne gub gpl (by decide)) (hn_ne gub gr (by decide)))
      refine ⟨by rw [v1]; exact hk3, fun i hi => ?_⟩
      rw [v2, v3, v4]
      rcases Nat.lt_or_ge i z9 with a | a
      · obtain ⟨l1, l2, l3⟩ := hk4 i a
        have hi3 : i + h9 < z0 := by rcases hz with ⟨b1, rfl, rfl⟩ | ⟨b1, rfl, rfl⟩ <;> omega
        obtain ⟨m1, m2, m3⟩ := u4 (i + h9) hi3
        rw [l1, l2, l3, r4 _ (by omega), r4 _ (by omega), r4 _ (by omega), eu]
        rw [show 3 * i + 3 * h9 = 3 * (i + h9) by omega, show 3 * i + 1 + 3 * h9 = 3 * (i + h9) + 1 by omega, show 3 * i + 2 + 3 * h9 = 3 * (i + h9) + 2 by omega]
        exact ⟨m1, m2, m3⟩
      · have e : i = z9 := by omega
        subst e
        rw [r5, r6, r7, es]
        exact ⟨hk5, hk6, hk7⟩
/-- between undo of the class and of the reference -/
def lq_v (w : Nat → Nat) (m : Nat) (M M' : mj_M) (r : Int) : Prop := (M.1 m 28 = 0 ∧ r = -1 ∧ M' = M) ∨ (∃ y p q : Nat, M.1 m 28 = ((y + 1 : Nat) : Int) ∧ r = (y : Int) ∧ lq_N M w p q ∧ lq_sb w p (M.1 (w 344) (3 * y)).toNat (M.1 (w 344) (3 * y + 1)).toNat (M.1 (w 344) (3 * y + 2)) (mj_p0 M (w 121) 3 (y : Int)) M')
theorem lq_un1 (gx : G x = (1011, 0)) (hJ : lq_J G M x s kp kc w) (hT : lq_T M s kp kr) (hU : lq_U G M x m s w) : mj_R mj_tab 40 154 [.inr (.inr (some x))] G M (fun r G' M' => G' = G ∧ ∃ y, r = some (.inl y) ∧ lq_v w m M M' y) := by
  obtain ⟨hA, hB, p, q, hN, h1, -⟩ := hJ
  obtain ⟨hUA, hUB, z, u1, u2, u3, u4⟩ := hU
  have b8 := hT.1.1.1.2
  have cb := lq_ct_b (fun i => M.1 s (0 + (88 + i))) 96
  have c5 := h1.2.2
  refine r_X11_undo5 (s := s) (d := 37) gx hA hB hN hUA hUB u2.1 u3 (by omega) (by omega) (fun i hi => ?_) (fun e => ⟨rfl, -1, rfl, Or.inl ⟨by rw [u1, e]; rfl, rfl, rfl⟩⟩) (fun y e M2 hs => ⟨rfl, (y : Int), rfl, Or.inr ⟨y, p, q, by rw [u1, e], rfl, hN, ?_⟩⟩)
  · obtain ⟨a1, a2, -⟩ := u4 i hi
    have b := u2.2.2 i hi
    rw [a1, a2]; omega
  · obtain ⟨a1, a2, a3⟩ := u4 y (by omega)
    rw [a1, a2, a3] at hs; exact hs
theorem lq_un2 (gx : G x = (1011, 0)) (gm : G m = (1012, 0)) (gs : G s = (51100, 537)) (gk : G kp = (70100, 1076)) (gkc : G kc = (48102, 2)) (gkr : G kr = (72102, 2)) (m6 : M.2.2 m 6 = some s) (hJ : lq_J G M x s kp kc w) (hT : lq_T M s kp kr) (hU : lq_U G M x m s w) {y0 : Int} (ho : lq_v w m M M1 y0) : mj_R mj_tab 40 253 [.inr (.inr (some m))] G M1 (fun r G' M' => G' = G ∧ r = some (.inl y0) ∧ lq_J G M' x s kp kc w ∧ lq_T M' s kp kr ∧ lq_U G M' x m s w) := by
  obtain ⟨hUA, hUB, z, u1, u2, u3, u4⟩ := id hU
  obtain ⟨gud, gut, gum, gub, gun⟩ := id hUA
  have hA := hJ.1
  have b8 := hT.1.1.1.2
  have bnd : ∀ i, i < z → (0 ≤ M.1 (w 344) (3 * i) ∧ M.1 (w 344) (3 * i) < 8) ∧ (0 ≤ M.1 (w 344) (3 * i + 1) ∧ M.1 (w 344) (3 * i + 1) < 12) := fun i hi => by have b := u2.2.2 i hi; omega
  rcases ho with ⟨e0, rfl, rfl⟩ | ⟨y, p, q, e28, rfl, hN, hs⟩
  · refine r_X12_undo5 (d := 39) gm gs gun m6 hUB.2.2.2.2 u2.1 u1 bnd (fun _ => ⟨rfl, rfl, ?_, ?_, ?_⟩) (fun y e => by omega)
    · exact hJ.of rfl (wz_c (hn_ne gk gm (by decide))) (wz_c (hn_ne gkc gm (by decide))) (fun p q hN h1 => h1.cg (lq_E6.p0 hA hN.pin.1 gm (by decide) (by decide) (by decide) (by decide)) (fun k _ => by rw [wz_c (hn_ne gs gm (by decide))])) (fun p q hN k _ => lq_E6.p0 hA (lq_ip_in k) gm (by decide) (by decide) (by decide) (by decide))
    · unfold lq_T
      rw [wz_c (hn_ne gs gm (by decide)), wz_c (hn_ne gk gm (by decide)), wz_c (hn_ne gkr gm (by decide))]; exact hT
    · refine ⟨hUA, hUB, z, (hn_n (Or.inr (by decide))).trans u1, ?_, ?_⟩
      · rw [wz_c (hn_ne gun gm (by decide)), wz_c (hn_ne gs gm (by decide))]; exact u2
      · unfold lq_Uc
        rw [wz_c (hn_ne gud gm (by decide)), wz_c (hn_ne gut gm (by decide)), wz_c (hn_ne gum gm (by decide)), wz_c (hn_ne gub gm (by decide)), wz_c (hn_ne gun gm (by decide))]; exact ⟨u3, u4⟩
  · have hzy : z = y + 1 := by omega
    subst hzy
    have by_ := bnd y (by omega)
    have b3 := u2.2.2 y (by omega)
    have hp := hN.pin.1
    obtain ⟨gpl, -, -, -, -, -, gbr⟩ := hA.2.1 p hp
    have gr := gbr (M.1 (w 344) (3 * y)).toNat (by omega)
    obtain ⟨hs1, hs2, hs3, hs4, hs5⟩ := id hs
    have cc : ∀ {a t n : Nat}, G a = (t, n) → t ≠ 1009 → t ≠ 1004 → t ≠ 28100 → M1.1 a = M.1 a := fun ga a1 a5 a6 => (hs2 _ (hn_ne ga gpl a5) (hn_ne ga gr a6)).trans (wz_c (hn_ne ga gud a1))
    have es : M1.1 s = M.1 s := cc gs (by decide) (by decide) (by decide)
    have em : M1.1 m = M.1 m := cc gm (by decide) (by decide) (by decide)
    have eu : M1.1 (w 344) = M.1 (w 344) := cc gun (by decide) (by decide) (by decide)
    have e2 : M1.2 = M.2 := hs1
    have ns : s ≠ m := hn_ne gs gm (by decide)
    have jj : 88 + 12 * (M.1 (w 344) (3 * y)).toNat + (M.1 (w 344) (3 * y + 1)).toNat = (88 + 12 * M.1 (w 344) (3 * y) + M.1 (w 344) (3 * y + 1)).toNat := by omega
    refine r_X12_undo5 (d := 39) (z := y + 1) gm gs gun (by rw [e2]; exact m6) (by rw [e2]; exact hUB.2.2.2.2) u2.1 (by rw [em]; exact u1) (by rw [eu]; exact bnd) (fun e => by omega) (fun y9 e9 => ?_)
    have : y9 = y := by omega
    subst this
    rw [eu]
    have c3 : ∀ {a t n : Nat} {i v b j : Int} , G a = (t, n) → t ≠ 1012 → t ≠ 51100 → (mj_p0 (mj_p0 (mj_p0 M1 m 0 i) m 28 v) s j.toNat b).1 a = M1.1 a := fun ga a1 a3 => (wz_c (hn_ne ga gs a3)).trans ((wz_c (hn_ne ga gm a1)).trans (wz_c (hn_ne ga gm a1)))
    have E1 : ∀ R, R ∈ lq_Ps → lq_E6 w R M (mj_p0 M (w 121) 3 (y9 : Int)) := fun R hR => lq_E6.p0 hA hR gud (by decide) (by decide) (by decide) (by decide)
    have E3 : ∀ {i v b j : Int} R, R ∈ lq_Ps → lq_E6 w R M1 (mj_p0 (mj_p0 (mj_p0 M1 m 0 i) m 28 v) s j.toNat b) := fun R hR => lq_E6.by hA hR (fun u a b => (wz_c (hA.ne hR gs (by decide) (by decide) (by decide) (by decide) (by decide) (by decide) (by decide) u a b)).trans ((wz_c (hA.ne hR gm (by decide) (by decide) (by decide) (by decide) (by decide) (by decide) (by decide) u a b)).trans (wz_c (hA.ne hR gm (by decide) (by decide) (by decide) (by decide) (by decide) (by decide) (by decide) u a b))))
    have s3 : (mj_p0 (mj_p0 (mj_p0 M1 m 0 0) m 28 (y9 : Int)) s (88 + 12 * M.1 (w 344) (3 * y9) + M.1 (w 344) (3 * y9 + 1)).toNat (M.1 (w 344) (3 * y9 + 2))).1 s = rv_up (M.1 s) (88 + 12 * M.1 (w 344) (3 * y9) + M.1 (w 344) (3 * y9 + 1)).toNat (M.1 (w 344) (3 * y9 + 2)) := by
      funext i
      by_cases e : i = (88 + 12 * M.1 (w 344) (3 * y9) + M.1 (w 344) (3 * y9 + 1)).toNat
      · subst e; rw [rv_up_s]; exact hn_s
      · rw [rv_up_n e]; exact (hn_n (Or.inr e)).trans ((hn_n (Or.inl ns)).trans ((hn_n (Or.inl ns)).trans (by rw [es])))
    have UU := u2.back rfl (by omega)
    refine ⟨rfl, rfl, ?_, ⟨?_, fun k hk h0 => ?_⟩, hUA, ?_, y9, (hn_n (Or.inl (Ne.symm ns))).trans hn_s, ?_, ?_⟩
    · refine hJ.of (by show M1.2.2 = _; rw [e2]) ((c3 gk (by decide) (by decide)).trans (cc gk (by decide) (by decide) (by decide))) ((c3 gkc (by decide) (by decide)).trans (cc gkc (by decide) (by decide) (by decide))) (fun p9 q9 hN9 h1 => ?_) (fun p9 q9 hN9 k _ => ?_)
      · have hpp : p9 = p := by
          have := hN9.1.symm.trans hN.1
          have := hA.1 _ _ (by have := lq_P4 hN9.pin.1; omega) (by have := lq_P4 hp; omega) (Option.some.inj this)
          exact this
        subst hpp
        have G1 := (h1.cg (E1 p9 hp) (fun _ _ => rfl)).set hA hp (by omega) (by omega) hs
        rw [jj] at G1
        rw [s3]
        exact G1.cg (E3 p9 hp) (fun _ _ => rfl)
      · exact ((E1 _ (lq_ip_in k)).tr (hs.E hA hp (by omega) (lq_ip_in k) (fun e => hN.pin.2 k e.symm))).tr (E3 _ (lq_ip_in k))
    · rw [s3]
      exact hT.1.set (by omega) (by omega) ⟨b3.2.2.1, b3.2.2.2⟩ (by omega) UU.2
    · rw [(c3 gkr (by decide) (by decide)).trans (cc gkr (by decide) (by decide) (by decide))] at h0
      rw [(c3 gk (by decide) (by decide)).trans (cc gk (by decide) (by decide) (by decide))]
      exact hT.2 k hk h0
    · unfold lq_UB; show _ ∧ _; rw [show (mj_p0 (mj_p0 (mj_p0 M1 m 0 0) m 28 (y9 : Int)) s (88 + 12 * M.1 (w 344) (3 * y9) + M.1 (w 344) (3 * y9 + 1)).toNat (M.1 (w 344) (3 * y9 + 2))).2.2 = M.2.2 from congrArg Prod.snd e2]; exact hUB
    · rw [s3, (c3 gun (by decide) (by decide)).trans eu]; exact UU.1
    · refine ⟨?_, fun i hi => ?_⟩
      · rw [c3 gud (by decide) (by decide), hs2 _ (hn_ne gud gpl (by decide)) (hn_ne gud gr (by decide))]; exact hn_s
      · rw [(c3 gut (by decide) (by decide)).trans (cc gut (by decide) (by decide) (by decide)), (c3 gum (by decide) (by decide)).trans (cc gum (by decide) (by decide) (by decide)), (c3 gub (by decide) (by decide)).trans (cc gub (by decide) (by decide) (by decide)), (c3 gun (by decide) (by decide)).trans eu]
        exact u4 i (by omega)
end OU
