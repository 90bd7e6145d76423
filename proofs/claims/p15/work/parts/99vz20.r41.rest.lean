/-! ===== restore of both sides; worth of the class ===== -/
section RW
variable {G : mj_G} {M M' : mj_M} {w : Nat → Nat} {x m s kp kc kr tp ud : Nat} {z1 : Int}
/-- between restore of the class and of the reference -/
def lq_r (G : mj_G) (M : mj_M) (x s kp kc kr : Nat) (w : Nat → Nat) (z1 : Int) : Prop := lq_A G w ∧ lq_B M w x ∧ lq_mk M kc kr ∧ ∃ p q, lq_N M w p q ∧ (∀ k, k < 2 → M.1 kc k ≠ 0 → rv_G6 (M.1 kp) (538 * k) w (lq_ip k) M) ∧ ((∀ k : Nat, k < 2 → z1 = (k : Int) → M.1 kc k = 0) → rv_G6 (M.1 s) 0 w p M) ∧ (∀ k : Nat, k < 2 → z1 = (k : Int) → M.1 kc k ≠ 0 → rv_G6 (M.1 kp) (538 * k) w p M)
/-- what the class's restore tells, raw -/
def lq_ry (G : mj_G) (M M' : mj_M) (kc ud : Nat) (w : Nat → Nat) (z1 : Int) : Prop := ∃ p q, lq_N M w p q ∧ ((∀ k : Nat, k < 2 → z1 = (k : Int) → M.1 kc k = 0) → M' = M) ∧ (∀ k : Nat, k < 2 → z1 = (k : Int) → M.1 kc k ≠ 0 → ∃ st M1, M' = mj_p0 M1 ud 3 0 ∧ M.2.2 (w 119) k = some st ∧ rv_cr G st (w 29) (w (lq_ip k + 1)) (w (p + 1)) M M1)
theorem lq_rst1 (hI : ab_Inv G M) (gx : G x = (1011, 0)) (gs : G s = (51100, 537)) (gk : G kp = (70100, 1076)) (x4 : M.2.2 x 4 = some kc) (gkc : G kc = (48102, 2)) (gkr : G kr = (72102, 2)) (x5 : M.2.2 x 5 = some ud) (gud : G ud = (1009, 0)) (hJ : lq_J G M x s kp kc w) (hm : lq_mk M kc kr) : mj_R mj_tab 40 144 [.inr (.inr (some x)), .inl z1] G M (fun _ G' M' => G' = G ∧ lq_r G M' x s kp kc kr w z1 ∧ ((∀ k : Nat, k < 2 → z1 = (k : Int) → M.1 kc k = 0) → M'.1 ud = M.1 ud) ∧ (∀ k : Nat, k < 2 → z1 = (k : Int) → M.1 kc k ≠ 0 → M'.1 ud 3 = 0) ∧ lq_ry G M M' kc ud w z1) := by
  obtain ⟨hA, hB, p, q, hN, h1, h2⟩ := hJ
  refine r_X11_restore4 hI gx hA hB hN x4 gkc x5 gud (fun h0 => ?_) (fun k0 hk0 e0 hc0 M1 c hcr => ?_)
  · have no : ∀ k : Nat, k < 2 → z1 = (k : Int) → M.1 kc k ≠ 0 → False := fun k hk e hc => by
      rcases h0 with h0 | ⟨j, hj, e1, e2⟩
      · exact absurd ⟨by omega, by omega⟩ h0
      · have : j = k := by omega
        subst this; exact absurd e2 hc
    exact ⟨rfl, ⟨hA, hB, hm, p, q, hN, h2, fun _ => h1, fun k hk e hc => (no k hk e hc).elim⟩, fun _ => rfl, (fun k hk e hc => (no k hk e hc).elim), p, q, hN, (fun _ => rfl), fun k hk e hc => (no k hk e hc).elim⟩
  have no1 : rv_no 51100 ∧ rv_no 70100 ∧ rv_no 48102 ∧ rv_no 72102 := by
    refine ⟨?_, ?_, ?_, ?_⟩ <;> (unfold rv_no; decide)
  have pi := hN.pin.1
  have ek : (mj_p0 M1 ud 3 0).1 kp = M.1 kp := (wz_c (hn_ne gk gud (by decide))).trans (c.o hA pi gk no1.2.1 (by decide) (by decide) (by decide) (by decide))
  have er : (mj_p0 M1 ud 3 0).1 kr = M.1 kr := (wz_c (hn_ne gkr gud (by decide))).trans (c.o hA pi gkr no1.2.2.2 (by decide) (by decide) (by decide) (by decide))
  have ec : (mj_p0 M1 ud 3 0).1 kc = M.1 kc := (wz_c (hn_ne gkc gud (by decide))).trans (c.o hA pi gkc no1.2.2.1 (by decide) (by decide) (by decide) (by decide))
  have B1 : lq_B M1 w x := c.B hA gx hB
  have N1 : lq_N M1 w p q := c.N hA hN
  refine ⟨rfl, ⟨hA, B1, fun k hk => by rw [ec, er]; exact hm k hk, p, q, N1, fun k hk h0 => ?_, fun h => ?_, fun k hk e _ => ?_⟩, fun h => absurd (h k0 hk0 e0) hc0, (fun _ _ _ _ => hn_s), p, q, hN, (fun h => absurd (h k0 hk0 e0) hc0), fun k hk e _ => ?_⟩
  rotate_left 3
  · obtain rfl : k = k0 := by omega
    obtain ⟨st, e1, e2⟩ := hcr
    exact ⟨st, M1, rfl, e1, e2⟩
  · rw [ec] at h0; rw [ek]
    exact (h2 k hk h0).cg ((c.E hA pi (lq_ip_in k) (fun e => hN.pin.2 k e.symm)).tr (lq_E6.p0 hA (lq_ip_in k) gud (by decide) (by decide) (by decide) (by decide))) (fun _ _ => rfl)
  · have := h k0 hk0 e0
    rw [ec] at this
    exact absurd this hc0
  · have : k = k0 := by omega
    subst this
    rw [ek]
    exact ((h2 k hk hc0).cp c).cg (lq_E6.p0 hA pi gud (by decide) (by decide) (by decide) (by decide)) (fun _ _ => rfl)
theorem lq_rst2 (gx : G x = (1011, 0)) (gk : G kp = (70100, 1076)) (gkc : G kc = (48102, 2)) (gkr : G kr = (72102, 2)) (h : lq_r G M x s kp kc kr w z1) (f : ab_frm hn_WR G M M') (o : ((¬ (0 ≤ z1 ∧ z1 ≤ 1) ∨ M.1 kr z1.toNat = 0) ∧ M'.1 s = M.1 s) ∨ (∃ k : Nat, k ≤ 1 ∧ z1 = (k : Int) ∧ M.1 kr k ≠ 0 ∧ (∀ p, p < 537 → M'.1 s p = M.1 kp (538 * k + p)))) : lq_J G M' x s kp kc w ∧ lq_mk M' kc kr := by
  obtain ⟨hA, hB, hm, p, q, hN, h2, h3, h4⟩ := h
  have c9 : lq_9c hn_WR := by decide
  have ek : M'.1 kp = M.1 kp := funext fun k => (f kp k (by rw [gk]; exact hn_nt (by decide))).1
  have ec : M'.1 kc = M.1 kc := funext fun k => (f kc k (by rw [gkc]; exact hn_nt (by decide))).1
  have er : M'.1 kr = M.1 kr := funext fun k => (f kr k (by rw [gkr]; exact hn_nt (by decide))).1
  have E : ∀ R, R ∈ lq_Ps → lq_E6 w R M M' := fun R hR => lq_E6.go hA hR f c9
  have B := hB.go hA gx f c9
  have N := hN.go hA f c9
  refine ⟨⟨hA, B, p, q, N, ?_, fun k hk h0 => ?_⟩, fun k hk => by rw [ec, er]; exact hm k hk⟩
  · rcases o with ⟨n1, n2⟩ | ⟨k0, j1, j2, j3, j4⟩
    · rw [n2]
      refine (h3 (fun k hk e => ?_)).cg (E p hN.pin.1) (fun _ _ => rfl)
      rcases n1 with n1 | n1
      · exact absurd ⟨by omega, by omega⟩ n1
      · rw [hm k hk]; rw [e] at n1; exact n1
    · exact (h4 k0 (by omega) j2 (by rw [hm k0 (by omega)]; exact j3)).cg (E p hN.pin.1) (fun i hi => by rw [Nat.zero_add]; exact j4 i (by omega))
  · rw [ec] at h0; rw [ek]
    exact (h2 k hk h0).cg (E _ (lq_ip_in k)) (fun _ _ => rfl)
end RW
