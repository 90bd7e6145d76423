/-! ===== image and restore of both sides ===== -/
section IR
variable {G : mj_G} {M M' : mj_M} {w : Nat → Nat} {x m s kp kc kr tp ud : Nat} {z1 : Int}
def lq_mk (M : mj_M) (kc kr : Nat) : Prop := ∀ k, k < 2 → M.1 kc k = M.1 kr k
/-- between image of the class and of the reference -/
def lq_i (G : mj_G) (M : mj_M) (x s kp kc kr : Nat) (w : Nat → Nat) (z1 : Int) : Prop := lq_A G w ∧ lq_B M w x ∧ ∃ p q, lq_N M w p q ∧ rv_G6 (M.1 s) 0 w p M ∧ ∀ k : Nat, k < 2 → (z1 ≠ (k : Int) → M.1 kc k = M.1 kr k ∧ (M.1 kc k ≠ 0 → rv_G6 (M.1 kp) (538 * k) w (lq_ip k) M)) ∧ (z1 = (k : Int) → M.1 kc k = 1 ∧ rv_G6 (M.1 s) 0 w (lq_ip k) M)
theorem lq_ip_ne {k j : Nat} (hk : k < 2) (hj : j < 2) (h : k ≠ j) : lq_ip k ≠ lq_ip j := by
  have : (k = 0 ∧ j = 1) ∨ (k = 1 ∧ j = 0) := by omega
  rcases this with ⟨rfl, rfl⟩ | ⟨rfl, rfl⟩ <;> decide
/-- what the class's image tells, raw -/
def lq_iy (G : mj_G) (M M' : mj_M) (kc : Nat) (w : Nat → Nat) (z1 : Int) : Prop := ∃ p q, lq_N M w p q ∧ (¬ (0 ≤ z1 ∧ z1 ≤ 1) → M' = M) ∧ (∀ k : Nat, k < 2 → z1 = (k : Int) → ∃ st M1, M' = mj_p0 M1 kc k 1 ∧ M1.1 kc = M.1 kc ∧ M.2.2 (w 119) k = some st ∧ rv_cr G (w 29) st (w (p + 1)) (w (lq_ip k + 1)) M M1)
theorem lq_img1 (hI : ab_Inv G M) (gx : G x = (1011, 0)) (gs : G s = (51100, 537)) (gk : G kp = (70100, 1076)) (x4 : M.2.2 x 4 = some kc) (gkc : G kc = (48102, 2)) (gkr : G kr = (72102, 2)) (hJ : lq_J G M x s kp kc w) (hm : lq_mk M kc kr) : mj_R mj_tab 40 127 [.inr (.inr (some x)), .inl z1] G M (fun _ G' M' => G' = G ∧ lq_i G M' x s kp kc kr w z1 ∧ lq_iy G M M' kc w z1) := by
  obtain ⟨hA, hB, p, q, hN, h1, h2⟩ := hJ
  refine r_X11_image4 hI gx hA hB hN x4 gkc (fun h0 => ⟨rfl, ⟨hA, hB, p, q, hN, h1, fun k hk => ⟨fun _ => ⟨hm k hk, h2 k hk⟩, fun e => absurd ⟨by omega, by omega⟩ h0⟩⟩, p, q, hN, fun _ => rfl, fun k hk e => absurd ⟨by omega, by omega⟩ h0⟩) (fun k0 hk0 e0 M1 c hcr => ?_)
  have no1 : rv_no 51100 ∧ rv_no 70100 ∧ rv_no 48102 ∧ rv_no 72102 := by
    refine ⟨?_, ?_, ?_, ?_⟩ <;> (unfold rv_no; decide)
  have ip := lq_ip_in k0
  have es : (mj_p0 M1 kc k0 1).1 s = M.1 s := (wz_c (hn_ne gs gkc (by decide))).trans (c.o hA ip gs no1.1 (by decide) (by decide) (by decide) (by decide))
  have ek : (mj_p0 M1 kc k0 1).1 kp = M.1 kp := (wz_c (hn_ne gk gkc (by decide))).trans (c.o hA ip gk no1.2.1 (by decide) (by decide) (by decide) (by decide))
  have er : (mj_p0 M1 kc k0 1).1 kr = M.1 kr := (wz_c (hn_ne gkr gkc (by decide))).trans (c.o hA ip gkr no1.2.2.2 (by decide) (by decide) (by decide) (by decide))
  have ec : ∀ k, k ≠ k0 → (mj_p0 M1 kc k0 1).1 kc k = M.1 kc k := fun k hk => (hn_n (Or.inr hk)).trans (congrFun (c.o hA ip gkc no1.2.2.1 (by decide) (by decide) (by decide) (by decide)) k)
  have E : ∀ R, R ∈ lq_Ps → R ≠ lq_ip k0 → lq_E6 w R M (mj_p0 M1 kc k0 1) := fun R hR hne => (c.E hA ip hR hne).tr (lq_E6.p0 hA hR gkc (by decide) (by decide) (by decide) (by decide))
  have B1 : lq_B M1 w x := c.B hA gx hB
  have N1 : lq_N M1 w p q := c.N hA hN
  refine ⟨rfl, ⟨hA, B1, p, q, N1, ?_, fun k hk => ⟨fun hz => ?_, fun hz => ?_⟩⟩, p, q, hN, fun n => absurd ⟨by omega, by omega⟩ n, fun k hk e => ?_⟩
  rotate_left 3
  · obtain rfl : k = k0 := by omega
    obtain ⟨st, e1, e2⟩ := hcr
    exact ⟨st, M1, rfl, c.o hA ip gkc no1.2.2.1 (by decide) (by decide) (by decide) (by decide), e1, e2⟩
  · rw [es]; exact h1.cg (E p hN.pin.1 (hN.pin.2 k0)) (fun _ _ => rfl)
  · have hne : k ≠ k0 := fun e => hz (by rw [e]; exact e0)
    rw [er, ec k hne, ek]
    exact ⟨hm k hk, fun h0 => (h2 k hk h0).cg (E _ (lq_ip_in k) (lq_ip_ne hk hk0 hne)) (fun _ _ => rfl)⟩
  · have e : k = k0 := by omega
    subst e
    refine ⟨hn_s, ?_⟩
    rw [es]
    exact (h1.cp c).cg (lq_E6.p0 hA ip gkc (by decide) (by decide) (by decide) (by decide)) (fun _ _ => rfl)
theorem lq_img2 (gx : G x = (1011, 0)) (gs : G s = (51100, 537)) (gkc : G kc = (48102, 2)) (h : lq_i G M x s kp kc kr w z1) (f : ab_frm hn_WI G M M') (o : (¬ (0 ≤ z1 ∧ z1 ≤ 1) ∧ (∀ q, M'.1 kr q = M.1 kr q) ∧ M'.1 kp = M.1 kp) ∨ (∃ k : Nat, k ≤ 1 ∧ z1 = (k : Int) ∧ M'.1 kr k = 1 ∧ (∀ q, q ≠ k → M'.1 kr q = M.1 kr q) ∧ (∀ p, p < 537 → M'.1 kp (538 * k + p) = M.1 s p) ∧ (∀ q, q < 538 * k ∨ 538 * k + 538 ≤ q → M'.1 kp q = M.1 kp q))) : lq_J G M' x s kp kc w ∧ lq_mk M' kc kr := by
  obtain ⟨hA, hB, p, q, hN, h1, h2⟩ := h
  have c9 : lq_9c hn_WI := by decide
  have es : M'.1 s = M.1 s := funext fun k => (f s k (by rw [gs]; exact hn_nt (by decide))).1
  have ec : M'.1 kc = M.1 kc := funext fun k => (f kc k (by rw [gkc]; exact hn_nt (by decide))).1
  have E : ∀ R, R ∈ lq_Ps → lq_E6 w R M M' := fun R hR => lq_E6.go hA hR f c9
  have B := hB.go hA gx f c9
  have N := hN.go hA f c9
  have H1 : rv_G6 (M'.1 s) 0 w p M' := by rw [es]; exact h1.cg (E p hN.pin.1) (fun _ _ => rfl)
  rcases o with ⟨n1, n2, n3⟩ | ⟨k0, j1, j2, j3, j4, j5, j6⟩
  · refine ⟨⟨hA, B, p, q, N, H1, fun k hk h0 => ?_⟩, fun k hk => ?_⟩
    · rw [ec] at h0; rw [n3]
      exact (((h2 k hk).1 (by omega)).2 h0).cg (E _ (lq_ip_in k)) (fun _ _ => rfl)
    · rw [ec, n2]; exact ((h2 k hk).1 (by omega)).1
  · refine ⟨⟨hA, B, p, q, N, H1, fun k hk h0 => ?_⟩, fun k hk => ?_⟩
    · rw [ec] at h0
      by_cases e : k = k0
      · subst e
        exact ((h2 k hk).2 j2).2.cg (E _ (lq_ip_in k)) (fun i hi => by rw [Nat.zero_add]; exact j5 i (by omega))
      · exact (((h2 k hk).1 (by omega)).2 h0).cg (E _ (lq_ip_in k)) (fun i hi => j6 _ (by omega))
    · rw [ec]
      by_cases e : k = k0
      · subst e; rw [j3]; exact ((h2 k hk).2 j2).1
      · rw [j4 k e]; exact ((h2 k hk).1 (by omega)).1
end IR
