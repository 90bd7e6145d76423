/-! ===== where the PLAINS lie; the class's image and restore with their PLAINS ===== -/
theorem w_zast {d : Nat} {full : List mj_E} {Q : mj_P} {rest : List mj_E} {L : mj_L} {st : List mj_V} {G : mj_G} {M : mj_M} {cb sb pc : Nat} {aux : List Nat} {im : Int} {a t n : Nat} {i v : Int} (hv : v = 0 ∨ v = 1) (ha : G a = (t, n)) (ht : t % 1000 = 102) (h9 : t < 900000) (h0 : 0 ≤ i) (h1 : i < n) (kk : wz d full Q rest L st G (mj_p0 M a i.toNat v) cb sb) : wz d full Q ((.bastore, pc, aux, im) :: rest) L (.inl v :: .inl i :: .inr (.inr (some a)) :: st) G M cb sb := wz_st (Or.inr ⟨hv, t, n, ha, ht, h9, h0, h1, kk⟩)
theorem w_zald {d : Nat} {full : List mj_E} {Q : mj_P} {rest : List mj_E} {L : mj_L} {st : List mj_V} {G : mj_G} {M : mj_M} {cb sb pc : Nat} {aux : List Nat} {im : Int} {a t n : Nat} {i v : Int} (ha : G a = (t, n)) (ht : t % 1000 = 102) (h0 : 0 ≤ i) (h1 : i < n) (hv : M.1 a i.toNat = v) (kk : wz d full Q rest L (.inl v :: st) G M cb sb) : wz d full Q ((.baload, pc, aux, im) :: rest) L (.inl i :: .inr (.inr (some a)) :: st) G M cb sb := wz_st (Or.inr ⟨t, n, ha, ht, h0, h1, by rw [← hv] at kk; exact kk⟩)
def lq_Ps : List Nat := [30, 75, 247, 292]
theorem lq_P4 {P : Nat} (h : P ∈ lq_Ps) : P = 30 ∨ P = 75 ∨ P = 247 ∨ P = 292 := by
  simp [lq_Ps] at h; exact h
def lq_A (G : mj_G) (w : Nat → Nat) : Prop := (∀ i j, i < 361 → j < 361 → w i = w j → i = j) ∧ (∀ P, P ∈ lq_Ps → G (w P) = (1004, 0) ∧ G (w (P + 1)) = (24103, 8) ∧ G (w (P + 2)) = (25104, 8) ∧ G (w (P + 11)) = (27104, 8) ∧ G (w (P + 20)) = (29100, 12) ∧ (∀ t, t < 8 → G (w (P + 3 + t)) = (26100, 9)) ∧ (∀ t, t < 8 → G (w (P + 12 + t)) = (28100, 12))) ∧ G (w 29) = (1007, 0) ∧ G (w 74) = (1007, 0) ∧ G (w 246) = (1007, 0) ∧ G (w 291) = (1007, 0) ∧ G (w 119) = (47106, 2)
def lq_B (M : mj_M) (w : Nat → Nat) (x : Nat) : Prop := (∀ P, P ∈ lq_Ps → M.2.2 (w P) 0 = some (w (P + 1)) ∧ M.2.2 (w P) 1 = some (w (P + 2)) ∧ M.2.2 (w P) 2 = some (w (P + 11)) ∧ M.2.2 (w P) 3 = some (w (P + 20)) ∧ (∀ t, t < 8 → M.2.2 (w (P + 2)) t = some (w (P + 3 + t))) ∧ (∀ t, t < 8 → M.2.2 (w (P + 11)) t = some (w (P + 12 + t)))) ∧ M.2.2 x 1 = some (w 29) ∧ M.2.2 x 2 = some (w 74) ∧ M.2.2 x 3 = some (w 119) ∧ M.2.2 (w 119) 0 = some (w 246) ∧ M.2.2 (w 119) 1 = some (w 291) ∧ M.2.2 (w 246) 0 = some (w 247) ∧ M.2.2 (w 291) 0 = some (w 292)
def lq_N (M : mj_M) (w : Nat → Nat) (p q : Nat) : Prop := M.2.2 (w 29) 0 = some (w p) ∧ M.2.2 (w 74) 0 = some (w q) ∧ ((p = 30 ∧ q = 75) ∨ (p = 75 ∧ q = 30))
theorem lq_K {G : mj_G} {M : mj_M} {w : Nat → Nat} {x P : Nat} (hA : lq_A G w) (hB : lq_B M w x) (hP : P ∈ lq_Ps) : rv_K G M (w P) (w (P + 1)) (w (P + 2)) (w (P + 11)) (w (P + 20)) (fun t => w (P + 3 + t)) (fun t => w (P + 12 + t)) := by
  obtain ⟨g1, g2, g3, g4, g5, g6, g7⟩ := hA.2.1 P hP
  obtain ⟨b1, b2, b3, b4, b5, b6⟩ := hB.1 P hP
  have h4 := lq_P4 hP
  exact ⟨g1, g2, g3, g4, g5, g6, g7, fun t s ht hs e => by have := hA.1 _ _ (by omega) (by omega) e; omega, fun t s ht hs e => by have := hA.1 _ _ (by omega) (by omega) e; omega, b1, b2, b3, b4, b5, b6⟩
theorem lq_ap {G : mj_G} {w : Nat → Nat} {P P' : Nat} (hA : lq_A G w) (hP : P ∈ lq_Ps) (hP' : P' ∈ lq_Ps) (hne : P ≠ P') : rv_ap (w P) (w (P + 1)) (w (P + 20)) (w P') (w (P' + 1)) (w (P' + 20)) (fun t => w (P + 3 + t)) (fun t => w (P + 12 + t)) (fun t => w (P' + 3 + t)) (fun t => w (P' + 12 + t)) := by
  have h4 := lq_P4 hP
  have h4' := lq_P4 hP'
  refine ⟨fun e => ?_, fun e => ?_, fun e => ?_, fun t s ht hs e => ?_, fun t s ht hs e => ?_⟩
  all_goals
    have := hA.1 _ _ (by omega) (by omega) e
    omega
/-- one PLAIN's cells over another's, all else of PLAINS as it was -/
def lq_cp (G : mj_G) (w : Nat → Nat) (P P' : Nat) (M M' : mj_M) : Prop := rv_cq G (w P) (w (P + 20)) (w P') (w (P' + 20)) (fun t => w (P + 3 + t)) (fun t => w (P + 12 + t)) (fun t => w (P' + 3 + t)) (fun t => w (P' + 12 + t)) M M'
section IM
variable {G : mj_G} {M : mj_M} {w : Nat → Nat} {x p q kc : Nat} {z1 : Int} {Q : mj_P}
def lq_ip (k : Nat) : Nat := if k = 0 then 247 else 292
theorem lq_ip_in (k : Nat) : lq_ip k ∈ lq_Ps := by unfold lq_ip; split <;> decide
theorem lq_N.pin (hN : lq_N M w p q) : p ∈ lq_Ps ∧ (∀ k, p ≠ lq_ip k) := by
  rcases hN.2.2 with ⟨rfl, -⟩ | ⟨rfl, -⟩
  · exact ⟨by decide, fun k => by unfold lq_ip; split <;> decide⟩
  · exact ⟨by decide, fun k => by unfold lq_ip; split <;> decide⟩
theorem lq_im (hA : lq_A G w) (hB : lq_B M w x) (k : Nat) (hk : k < 2) : ∃ st, M.2.2 (w 119) k = some st ∧ G st = (1007, 0) ∧ M.2.2 st 0 = some (w (lq_ip k)) := by
  have : k = 0 ∨ k = 1 := by omega
  rcases this with rfl | rfl
  · exact ⟨w 246, hB.2.2.2.2.1, hA.2.2.2.2.1, hB.2.2.2.2.2.2.1⟩
  · exact ⟨w 291, hB.2.2.2.2.2.1, hA.2.2.2.2.2.1, hB.2.2.2.2.2.2.2⟩
theorem r_X11_image4 (hI : ab_Inv G M) (gx : G x = (1011, 0)) (hA : lq_A G w) (hB : lq_B M w x) (hN : lq_N M w p q) (x4 : M.2.2 x 4 = some kc) (gkc : G kc = (48102, 2)) (h0 : ¬ (0 ≤ z1 ∧ z1 ≤ 1) → Q (some (.inl 0)) G M) (h1 : ∀ k : Nat, k < 2 → z1 = (k : Int) → ∀ M1, lq_cp G w p (lq_ip k) M M1 → (∃ st, M.2.2 (w 119) k = some st ∧ rv_cr G (w 29) st (w (p + 1)) (w (lq_ip k + 1)) M M1) → Q (some (.inl 1)) G (mj_p0 M1 kc k 1)) : mj_R mj_tab 40 127 [.inr (.inr (some x)), .inl z1] G M Q := by
  have g119 := hA.2.2.2.2.2.2
  refine ⟨Nat.le_of_ble_eq_true rfl, ?_⟩
  show wz 39 mt_X11_image.2.2.2.2.1 Q mt_X11_image.2.2.2.2.1 [some (.inr (.inr (some x))), some (.inl z1)] [] G M _ _
  refine w_iln rfl ?_
  refine w_iflt (fun c => ?_) (fun c => ?_)
  · refine w_ic ?_
    exact w_iret (fun _ => Or.inl rfl) (h0 (by omega))
  · refine w_iln rfl ?_
    refine w_ic ?_
    refine w_cmlt (fun c2 => ?_) (fun c2 => ?_)
    · obtain ⟨k, hk, ek⟩ : ∃ k : Nat, k < 2 ∧ z1 = (k : Int) := ⟨z1.toNat, by omega, by omega⟩
      subst ek
      obtain ⟨st, s1, gst, s0⟩ := lq_im hA hB k hk
      have tk : ((k : Int)).toNat = k := by omega
      refine w_aln rfl ?_
      refine w_gr gx rfl (by decide) rfl hB.2.2.2.1 ?_
      refine w_iln rfl ?_
      refine w_aald (b := st) g119 rfl (by omega) (by show (k : Int) < ((2 : Nat) : Int); omega) (by rw [tk]; exact s1) ?_
      refine w_aln rfl ?_
      refine w_gr gx rfl (by decide) rfl hB.2.1 ?_
      refine w_cv (st := []) rfl gst rfl (Nat.le_of_ble_eq_true rfl) (fun kk h => h) (r_X6_copy hI hA.2.2.1 gst hN.1 s0 (lq_K hA hB hN.pin.1) (lq_K hA hB (lq_ip_in k)) (lq_ap hA hN.pin.1 (lq_ip_in k) (hN.pin.2 k)) (fun M1 I1 h hcr => ?_))
      refine w_aln rfl ?_
      refine w_gr gx rfl (by decide) rfl ((h.2.2.2.2.1 x 4 (by rw [gx]; unfold rv_no; decide)).trans x4) ?_
      refine w_iln rfl ?_
      refine w_ic ?_
      refine w_zast (Or.inr rfl) gkc rfl (by decide) (by omega) (by show (k : Int) < ((2 : Nat) : Int); omega) ?_
      refine w_ic ?_
      refine w_iret (fun _ => Or.inr rfl) ?_
      rw [tk]
      exact h1 k hk rfl M1 h ⟨st, s1, hcr⟩
    · refine w_ic ?_
      exact w_iret (fun _ => Or.inl rfl) (h0 (by omega))
theorem r_X11_restore4 {ud : Nat} (hI : ab_Inv G M) (gx : G x = (1011, 0)) (hA : lq_A G w) (hB : lq_B M w x) (hN : lq_N M w p q) (x4 : M.2.2 x 4 = some kc) (gkc : G kc = (48102, 2)) (x5 : M.2.2 x 5 = some ud) (gud : G ud = (1009, 0)) (h0 : (¬ (0 ≤ z1 ∧ z1 ≤ 1) ∨ ∃ k : Nat, k < 2 ∧ z1 = (k : Int) ∧ M.1 kc k = 0) → Q (some (.inl 0)) G M) (h1 : ∀ k : Nat, k < 2 → z1 = (k : Int) → M.1 kc k ≠ 0 → ∀ M1, lq_cp G w (lq_ip k) p M M1 → (∃ st, M.2.2 (w 119) k = some st ∧ rv_cr G st (w 29) (w (lq_ip k + 1)) (w (p + 1)) M M1) → Q (some (.inl 1)) G (mj_p0 M1 ud 3 0)) : mj_R mj_tab 40 144 [.inr (.inr (some x)), .inl z1] G M Q := by
  have g119 := hA.2.2.2.2.2.2
  refine ⟨Nat.le_of_ble_eq_true rfl, ?_⟩
  show wz 39 mt_X11_restore.2.2.2.2.1 Q mt_X11_restore.2.2.2.2.1 [some (.inr (.inr (some x))), some (.inl z1)] [] G M _ _
  refine w_iln rfl ?_
  refine w_iflt (fun c => ?_) (fun c => ?_)
  · refine w_ic ?_
    exact w_iret (fun _ => Or.inl rfl) (h0 (Or.inl (by omega)))
  · refine w_iln rfl ?_
    refine w_ic ?_
    refine w_cmge (fun c2 => ?_) (fun c2 => ?_)
    · refine w_ic ?_
      exact w_iret (fun _ => Or.inl rfl) (h0 (Or.inl (by omega)))
    · obtain ⟨k, hk, ek⟩ : ∃ k : Nat, k < 2 ∧ z1 = (k : Int) := ⟨z1.toNat, by omega, by omega⟩
      subst ek
      obtain ⟨st, s1, gst, s0⟩ := lq_im hA hB k hk
      have tk : ((k : Int)).toNat = k := by omega
      refine w_aln rfl ?_
      refine w_gr gx rfl (by decide) rfl x4 ?_
      refine w_iln rfl ?_
      refine w_zald (v := M.1 kc k) gkc rfl (by omega) (by show (k : Int) < ((2 : Nat) : Int); omega) (by rw [tk]) ?_
      refine w_ifne (fun c3 => ?_) (fun c3 => ?_)
      · refine w_aln rfl ?_
        refine w_gr gx rfl (by decide) rfl hB.2.1 ?_
        refine w_aln rfl ?_
        refine w_gr gx rfl (by decide) rfl hB.2.2.2.1 ?_
        refine w_iln rfl ?_
        refine w_aald (b := st) g119 rfl (by omega) (by show (k : Int) < ((2 : Nat) : Int); omega) (by rw [tk]; exact s1) ?_
        refine w_cv (st := []) rfl hA.2.2.1 rfl (Nat.le_of_ble_eq_true rfl) (fun kk h => h) (r_X6_copy hI gst hA.2.2.1 s0 hN.1 (lq_K hA hB (lq_ip_in k)) (lq_K hA hB hN.pin.1) (lq_ap hA (lq_ip_in k) hN.pin.1 (fun e => hN.pin.2 k e.symm)) (fun M1 I1 h hcr => ?_))
        refine w_aln rfl ?_
        refine w_gr gx rfl (by decide) rfl ((h.2.2.2.2.1 x 5 (by rw [gx]; unfold rv_no; decide)).trans x5) ?_
        refine w_ic ?_
        refine w_pi gud rfl (by decide) rfl (fun q => by cases q) ?_
        refine w_ic ?_
        exact w_iret (fun _ => Or.inr rfl) (h1 k hk rfl c3 M1 h ⟨st, s1, hcr⟩)
      · refine w_ic ?_
        exact w_iret (fun _ => Or.inl rfl) (h0 (Or.inr ⟨k, hk, rfl, c3⟩))
end IM
