/-! ===== bid, bidsOf, greatest, as the PLAIN now asks for them (laid by a program) ===== -/
theorem rv_r6.b {H : Nat → Int} (h : rv_r6 H 0) {j : Nat} (h1 : 88 ≤ j) (h2 : j < 184) : 0 ≤ H j ∧ H j ≤ 999 := by
  have := h.2.1 ((j - 88) / 12) ((j - 88) % 12) (by omega) (by omega)
  rw [show 0 + (88 + 12 * ((j - 88) / 12) + (j - 88) % 12) = j by omega] at this; exact ⟨this.1, this.2.1⟩
def lr_bid (H : Nat → Int) (z1 z2 : Int) : Int := if (0 ≤ z1 ∧ z1 < H 0) ∧ (0 ≤ z2 ∧ z2 ≤ 11) then H (12 * z1 + z2 + 88).toNat else -1
set_option maxRecDepth 100000 in
set_option maxHeartbeats 2000000 in
theorem lr_X11_bid {G : mj_G} {M : mj_M} {x m tp s kp bc bt kc kr : Nat} {w : Nat → Nat} {z1 z2 : Int} (hI : lp_I G M x m tp s kp bc bt kc kr w) (hz1 : mj_in z1) (hz2 : mj_in z2) : mj_R mj_tab 40 111 [.inr (.inr (some x)), .inl z1, .inl z2] G M (fun r _ _ => r = some (.inl (lr_bid (M.1 s) z1 z2))) := by
  obtain ⟨hA, hB, p, q, hN, hG6, -⟩ := hI.J
  have hG := hG6.1
  have hG5 := hG6
  obtain ⟨gpl, gna, gta, gba, gwa, gtr, gbr, itr, ibr, p0, p1, p2, p3, rt, rb⟩ := lq_K hA hB hN.pin.1
  have gx := hI.gx
  have gnw := hA.2.2.1
  have b0 := hI.b0
  have bz1 : (-2147483648 : Int) ≤ z1 ∧ z1 < 2147483648 := hz1
  have bz2 : (-2147483648 : Int) ≤ z2 ∧ z2 < 2147483648 := hz2
  refine ⟨Nat.le_of_ble_eq_true rfl, ?_⟩
  show wz 39 mt_X11_bid.2.2.2.2.1 _ mt_X11_bid.2.2.2.2.1 [some (.inr (.inr (some x))), some (.inl z1), some (.inl z2)] [] G M _ _
  refine w_aln rfl ?_
  refine w_iln rfl ?_
  refine w_cv (st := []) rfl gx rfl (Nat.le_of_ble_eq_true rfl) (fun kk h => h) ⟨Nat.le_of_ble_eq_true rfl, ?_⟩
  show wz (38) mt_X11_isTown.2.2.2.2.1 _ mt_X11_isTown.2.2.2.2.1 [some (.inr (.inr (some x))), some (.inl z1)] [] _ _ _ _
  refine w_iln rfl ?_
  refine w_iflt (fun c1 => ?_) (fun c1 => ?_)
  · skip
    refine w_ic ?_
    refine w_iret (fun _ => Or.inl rfl) ?_
    refine w_ifeq (fun c2 => ?_) (fun c2 => ?_)
    · skip
      refine w_ic ?_
      exact w_iret (fun q => by cases q) (by show some (Sum.inl _) = some (Sum.inl _); unfold lr_bid; split <;> first | rfl | (exfalso; omega))
    · exfalso; omega
  · skip
    refine w_iln rfl ?_
    refine w_aln rfl ?_
    refine w_gr gx rfl (by decide) rfl (hB.2.1) ?_
    refine w_gr gnw rfl (by decide) rfl (hN.1) ?_
    refine w_gi gpl rfl (by decide) rfl (hG.1.symm) ?_
    refine w_cmge (fun c3 => ?_) (fun c3 => ?_)
    · skip
      refine w_ic ?_
      refine w_iret (fun _ => Or.inl rfl) ?_
      refine w_ifeq (fun c4 => ?_) (fun c4 => ?_)
      · skip
        refine w_ic ?_
        exact w_iret (fun q => by cases q) (by show some (Sum.inl _) = some (Sum.inl _); unfold lr_bid; split <;> first | rfl | (exfalso; omega))
      · exfalso; omega
    · skip
      refine w_ic ?_
      refine w_goto ?_
      refine w_iret (fun _ => Or.inr rfl) ?_
      refine w_ifeq (fun c5 => ?_) (fun c5 => ?_)
      · exfalso; omega
      · skip
        refine w_iln rfl ?_
        refine w_cs (st := []) rfl (Nat.le_of_ble_eq_true rfl) (fun kk h => h) ⟨Nat.le_of_ble_eq_true rfl, ?_⟩
        show wz (38) mt_X11_isMonth.2.2.2.2.1 _ mt_X11_isMonth.2.2.2.2.1 [some (.inl z2)] [] _ _ _ _
        refine w_iln rfl ?_
        refine w_iflt (fun c6 => ?_) (fun c6 => ?_)
        · skip
          refine w_ic ?_
          refine w_iret (fun _ => Or.inl rfl) ?_
          refine w_ifne (fun c7 => ?_) (fun c7 => ?_)
          · exfalso; omega
          · skip
            refine w_ic ?_
            exact w_iret (fun q => by cases q) (by show some (Sum.inl _) = some (Sum.inl _); unfold lr_bid; split <;> first | rfl | (exfalso; omega))
        · skip
          refine w_iln rfl ?_
          refine w_bp ?_
          refine w_cmge (fun c8 => ?_) (fun c8 => ?_)
          · skip
            refine w_ic ?_
            refine w_iret (fun _ => Or.inl rfl) ?_
            refine w_ifne (fun c9 => ?_) (fun c9 => ?_)
            · exfalso; omega
            · skip
              refine w_ic ?_
              exact w_iret (fun q => by cases q) (by show some (Sum.inl _) = some (Sum.inl _); unfold lr_bid; split <;> first | rfl | (exfalso; omega))
          · skip
            refine w_ic ?_
            refine w_goto ?_
            refine w_iret (fun _ => Or.inr rfl) ?_
            refine w_ifne (fun c10 => ?_) (fun c10 => ?_)
            · skip
              refine w_aln rfl ?_
              refine w_gr gx rfl (by decide) rfl (hB.2.1) ?_
              refine w_gr gnw rfl (by decide) rfl (hN.1) ?_
              refine w_gr gpl rfl (by decide) rfl (p2) ?_
              refine w_iln rfl ?_
              refine w_aald gba rfl (by show (0 : Int) ≤ z1; omega) (by show z1 < ((8 : Nat) : Int); omega) (rb _ (by show z1.toNat < 8; omega)) ?_
              refine w_iln rfl ?_
              refine w_iald (v := (M.1 s (12 * z1 + z2 + 88).toNat)) (gbr _ (by show z1.toNat < 8; omega)) rfl (by show (0 : Int) ≤ z2; omega) (by show z2 < ((12 : Nat) : Int); omega) (lq_rB hG5 (by show z1.toNat < 8; omega) (by show z2.toNat < 12; omega) (by show (12 * z1 + z2 + 88).toNat = 88 + 12 * z1.toNat + z2.toNat; omega)) ?_
              exact w_iret (fun q => by cases q) (by show some (Sum.inl _) = some (Sum.inl _); unfold lr_bid; split <;> first | rfl | (exfalso; omega))
            · exfalso; omega
set_option maxRecDepth 100000 in
set_option maxHeartbeats 2000000 in
theorem lr_X12_bid {G : mj_G} {M : mj_M} {x m tp s kp bc bt kc kr : Nat} {w : Nat → Nat} {z1 z2 : Int} (hI : lp_I G M x m tp s kp bc bt kc kr w) (hz1 : mj_in z1) (hz2 : mj_in z2) : mj_R mj_tab 40 165 [.inr (.inr (some m)), .inl z1, .inl z2] G M (fun r _ _ => r = some (.inl (lr_bid (M.1 s) z1 z2))) := by
  have gm := hI.gm
  have gs := hI.gs
  have m6 := hI.m6
  have b0 := hI.b0
  have bz1 : (-2147483648 : Int) ≤ z1 ∧ z1 < 2147483648 := hz1
  have bz2 : (-2147483648 : Int) ≤ z2 ∧ z2 < 2147483648 := hz2
  refine ⟨Nat.le_of_ble_eq_true rfl, ?_⟩
  show wz 39 mt_X12_bid.2.2.2.2.1 _ mt_X12_bid.2.2.2.2.1 [some (.inr (.inr (some m))), some (.inl z1), some (.inl z2)] [] G M _ _
  refine w_aln rfl ?_
  refine w_ic ?_
  refine w_pi gm rfl (by decide) rfl (fun q => by cases q) ?_
  refine w_aln rfl ?_
  refine w_iln rfl ?_
  refine w_cv (st := []) rfl gm rfl (Nat.le_of_ble_eq_true rfl) (fun kk h => h) ⟨Nat.le_of_ble_eq_true rfl, ?_⟩
  show wz (38) mt_X12_isTown.2.2.2.2.1 _ mt_X12_isTown.2.2.2.2.1 [some (.inr (.inr (some m))), some (.inl z1)] [] _ _ _ _
  refine w_iln rfl ?_
  refine w_ic ?_
  refine w_aln rfl ?_
  refine w_gr gm rfl (by decide) rfl (m6) ?_
  refine w_ic ?_
  refine w_iald (v := (M.1 s 0)) gs rfl (by show (0 : Int) ≤ 0; omega) (by show 0 < ((537 : Nat) : Int); omega) ((hn_n (Or.inl (hn_ne gs gm (by decide)))).trans (congrArg (M.1 s) (by show (0 : Int).toNat = 0; omega))) ?_
  refine w_ic ?_
  refine w_sub ⟨by show (-2147483648 : Int) ≤ (M.1 s 0) - 1; omega, by show (M.1 s 0) - 1 < (2147483648 : Int); omega⟩ ?_
  refine w_cs (st := []) rfl (Nat.le_of_ble_eq_true rfl) (fun kk h => h) ⟨Nat.le_of_ble_eq_true rfl, ?_⟩
  show wz (37) mt_X12_isIn.2.2.2.2.1 _ mt_X12_isIn.2.2.2.2.1 [some (.inl z1), some (.inl 0), some (.inl ((M.1 s 0) - 1))] [] _ _ _ _
  refine w_iln rfl ?_
  refine w_iln rfl ?_
  refine w_cmlt (fun c1 => ?_) (fun c1 => ?_)
  · skip
    refine w_ic ?_
    refine w_iret (fun _ => Or.inl rfl) ?_
    refine w_iret (fun _ => Or.inl rfl) ?_
    refine w_ifeq (fun c2 => ?_) (fun c2 => ?_)
    · skip
      refine w_ic ?_
      exact w_iret (fun q => by cases q) (by show some (Sum.inl _) = some (Sum.inl _); unfold lr_bid; split <;> first | rfl | (exfalso; omega))
    · exfalso; omega
  · skip
    refine w_iln rfl ?_
    refine w_iln rfl ?_
    refine w_cmgt (fun c3 => ?_) (fun c3 => ?_)
    · skip
      refine w_ic ?_
      refine w_iret (fun _ => Or.inl rfl) ?_
      refine w_iret (fun _ => Or.inl rfl) ?_
      refine w_ifeq (fun c4 => ?_) (fun c4 => ?_)
      · skip
        refine w_ic ?_
        exact w_iret (fun q => by cases q) (by show some (Sum.inl _) = some (Sum.inl _); unfold lr_bid; split <;> first | rfl | (exfalso; omega))
      · exfalso; omega
    · skip
      refine w_ic ?_
      refine w_goto ?_
      refine w_iret (fun _ => Or.inr rfl) ?_
      refine w_iret (fun _ => Or.inr rfl) ?_
      refine w_ifeq (fun c5 => ?_) (fun c5 => ?_)
      · exfalso; omega
      · skip
        refine w_iln rfl ?_
        refine w_cs (st := []) rfl (Nat.le_of_ble_eq_true rfl) (fun kk h => h) ⟨Nat.le_of_ble_eq_true rfl, ?_⟩
        show wz (38) mt_X12_isMonth.2.2.2.2.1 _ mt_X12_isMonth.2.2.2.2.1 [some (.inl z2)] [] _ _ _ _
        refine w_iln rfl ?_
        refine w_ic ?_
        refine w_bp ?_
        refine w_cs (st := []) rfl (Nat.le_of_ble_eq_true rfl) (fun kk h => h) ⟨Nat.le_of_ble_eq_true rfl, ?_⟩
        show wz (37) mt_X12_isIn.2.2.2.2.1 _ mt_X12_isIn.2.2.2.2.1 [some (.inl z2), some (.inl 0), some (.inl 11)] [] _ _ _ _
        refine w_iln rfl ?_
        refine w_iln rfl ?_
        refine w_cmlt (fun c6 => ?_) (fun c6 => ?_)
        · skip
          refine w_ic ?_
          refine w_iret (fun _ => Or.inl rfl) ?_
          refine w_iret (fun _ => Or.inl rfl) ?_
          refine w_ifeq (fun c7 => ?_) (fun c7 => ?_)
          · skip
            refine w_ic ?_
            exact w_iret (fun q => by cases q) (by show some (Sum.inl _) = some (Sum.inl _); unfold lr_bid; split <;> first | rfl | (exfalso; omega))
          · exfalso; omega
        · skip
          refine w_iln rfl ?_
          refine w_iln rfl ?_
          refine w_cmgt (fun c8 => ?_) (fun c8 => ?_)
          · skip
            refine w_ic ?_
            refine w_iret (fun _ => Or.inl rfl) ?_
            refine w_iret (fun _ => Or.inl rfl) ?_
            refine w_ifeq (fun c9 => ?_) (fun c9 => ?_)
            · skip
              refine w_ic ?_
              exact w_iret (fun q => by cases q) (by show some (Sum.inl _) = some (Sum.inl _); unfold lr_bid; split <;> first | rfl | (exfalso; omega))
            · exfalso; omega
          · skip
            refine w_ic ?_
            refine w_goto ?_
            refine w_iret (fun _ => Or.inr rfl) ?_
            refine w_iret (fun _ => Or.inr rfl) ?_
            refine w_ifeq (fun c10 => ?_) (fun c10 => ?_)
            · exfalso; omega
            · skip
              refine w_aln rfl ?_
              refine w_iln rfl ?_
              refine w_iln rfl ?_
              refine w_cv (st := []) rfl gm rfl (Nat.le_of_ble_eq_true rfl) (fun kk h => h) ⟨Nat.le_of_ble_eq_true rfl, ?_⟩
              show wz (38) mt_X12_bidOf.2.2.2.2.1 _ mt_X12_bidOf.2.2.2.2.1 [some (.inr (.inr (some m))), some (.inl z1), some (.inl z2)] [] _ _ _ _
              refine w_aln rfl ?_
              refine w_gr gm rfl (by decide) rfl (m6) ?_
              refine w_bp ?_
              refine w_bp ?_
              refine w_iln rfl ?_
              refine w_mul ⟨by show (-2147483648 : Int) ≤ 12 * z1; omega, by show 12 * z1 < (2147483648 : Int); omega⟩ ?_
              refine w_add ⟨by show (-2147483648 : Int) ≤ 88 + (12 * z1); omega, by show 88 + (12 * z1) < (2147483648 : Int); omega⟩ ?_
              refine w_iln rfl ?_
              refine w_add ⟨by show (-2147483648 : Int) ≤ (88 + (12 * z1)) + z2; omega, by show (88 + (12 * z1)) + z2 < (2147483648 : Int); omega⟩ ?_
              refine w_iald (v := (M.1 s (12 * z1 + z2 + 88).toNat)) gs rfl (by show (0 : Int) ≤ (88 + (12 * z1)) + z2; omega) (by show (88 + (12 * z1)) + z2 < ((537 : Nat) : Int); omega) ((hn_n (Or.inl (hn_ne gs gm (by decide)))).trans (congrArg (M.1 s) (by show ((88 + (12 * z1)) + z2).toNat = (12 * z1 + z2 + 88).toNat; omega))) ?_
              refine w_iret (fun q => by cases q) ?_
              refine w_goto ?_
              exact w_iret (fun q => by cases q) (by show some (Sum.inl _) = some (Sum.inl _); unfold lr_bid; split <;> first | rfl | (exfalso; omega))
def lr_bs (H : Nat → Int) (k : Int) : Int := 0 + H (12 * k + 88).toNat + H (12 * k + 89).toNat + H (12 * k + 90).toNat + H (12 * k + 91).toNat + H (12 * k + 92).toNat + H (12 * k + 93).toNat + H (12 * k + 94).toNat + H (12 * k + 95).toNat + H (12 * k + 96).toNat + H (12 * k + 97).toNat + H (12 * k + 98).toNat + H (12 * k + 99).toNat
def lr_bidsOf (H : Nat → Int) (z1 : Int) : Int := if 0 ≤ z1 ∧ z1 < H 0 then lr_bs H z1 else -1
set_option maxHeartbeats 4000000 in
theorem r_bo1 {G : mj_G} {M : mj_M} {x s p q : Nat} {w : Nat → Nat} {Q : mj_P} {d : Nat} (gx : G x = (1011, 0)) (hA : lq_A G w) (hB : lq_B M w x) (hN : lq_N M w p q) (hG5 : rv_G6 (M.1 s) 0 w p M) (hr : rv_r6 (M.1 s) 0) {k : Int} (k1 : 0 ≤ k) (k2 : k < 8) {v2 : Option mj_V} {cb sb : Nat} (h : Q (some (.inl (lr_bs (M.1 s) k))) G M) : wz d mt_X11_bidsOf.2.2.2.2.1 Q (mt_X11_bidsOf.2.2.2.2.1.drop 6) [some (.inr (.inr (some x))), some (.inl k), v2, none] [] G M cb sb := by
  obtain ⟨gpl, gna, gta, gba, gwa, gtr, gbr, itr, ibr, p0, p1, p2, p3, rt, rb⟩ := lq_K hA hB hN.pin.1
  have gnw := hA.2.2.1
  have hG := hG5.1
  have b0 := hr.1.1
  have c0_ := hr.b (j := (12 * k + 88).toNat) (by omega) (by omega)
  have c1_ := hr.b (j := (12 * k + 89).toNat) (by omega) (by omega)
  have c2_ := hr.b (j := (12 * k + 90).toNat) (by omega) (by omega)
  have c3_ := hr.b (j := (12 * k + 91).toNat) (by omega) (by omega)
  have c4_ := hr.b (j := (12 * k + 92).toNat) (by omega) (by omega)
  have c5_ := hr.b (j := (12 * k + 93).toNat) (by omega) (by omega)
  have c6_ := hr.b (j := (12 * k + 94).toNat) (by omega) (by omega)
  have c7_ := hr.b (j := (12 * k + 95).toNat) (by omega) (by omega)
  have c8_ := hr.b (j := (12 * k + 96).toNat) (by omega) (by omega)
  have c9_ := hr.b (j := (12 * k + 97).toNat) (by omega) (by omega)
  have c10_ := hr.b (j := (12 * k + 98).toNat) (by omega) (by omega)
  have c11_ := hr.b (j := (12 * k + 99).toNat) (by omega) (by omega)
  refine w_ic ?_
  refine w_isn ?_
  show wz _ _ _ _ [some (.inr (.inr (some x))), some (.inl k), some (.inl 0), none] _ _ _ _ _
  refine w_ic ?_
  refine w_isn ?_
  show wz _ _ _ _ [some (.inr (.inr (some x))), some (.inl k), some (.inl 0), some (.inl 0)] _ _ _ _ _
  refine w_iln rfl ?_
  refine w_bp ?_
  refine w_cmge (fun c1 => ?_) (fun c1 => ?_)
  · exfalso; omega
  · skip
    refine w_iln rfl ?_
    refine w_aln rfl ?_
    refine w_gr gx rfl (by decide) rfl (hB.2.1) ?_
    refine w_gr gnw rfl (by decide) rfl (hN.1) ?_
    refine w_gr gpl rfl (by decide) rfl (p2) ?_
    refine w_iln rfl ?_
    refine w_aald gba rfl (by show (0 : Int) ≤ k; omega) (by show k < ((8 : Nat) : Int); omega) (rb _ (by show k.toNat < 8; omega)) ?_
    refine w_iln rfl ?_
    refine w_iald (v := (M.1 s (12 * k + 88).toNat)) (gbr _ (by show k.toNat < 8; omega)) rfl (by show (0 : Int) ≤ 0; omega) (by show 0 < ((12 : Nat) : Int); omega) (lq_rB hG5 (by show k.toNat < 8; omega) (by show (0 : Int).toNat < 12; omega) (by show (12 * k + 88).toNat = 88 + 12 * k.toNat + (0 : Int).toNat; omega)) ?_
    refine w_add ⟨by show (-2147483648 : Int) ≤ 0 + (M.1 s (12 * k + 88).toNat); omega, by show 0 + (M.1 s (12 * k + 88).toNat) < (2147483648 : Int); omega⟩ ?_
    refine w_isn ?_
    show wz _ _ _ _ [some (.inr (.inr (some x))), some (.inl k), some (.inl (0 + (M.1 s (12 * k + 88).toNat))), some (.inl 0)] _ _ _ _ _
    refine w_ii rfl ⟨by show (-2147483648 : Int) ≤ 1; omega, by show 1 < (2147483648 : Int); omega⟩ ?_
    show wz _ _ _ _ [some (.inr (.inr (some x))), some (.inl k), some (.inl (0 + (M.1 s (12 * k + 88).toNat))), some (.inl 1)] _ _ _ _ _
    refine w_goto ?_
    refine w_iln rfl ?_
    refine w_bp ?_
    refine w_cmge (fun c2 => ?_) (fun c2 => ?_)
    · exfalso; omega
    · skip
      refine w_iln rfl ?_
      refine w_aln rfl ?_
      refine w_gr gx rfl (by decide) rfl (hB.2.1) ?_
      refine w_gr gnw rfl (by decide) rfl (hN.1) ?_
      refine w_gr gpl rfl (by decide) rfl (p2) ?_
      refine w_iln rfl ?_
      refine w_aald gba rfl (by show (0 : Int) ≤ k; omega) (by show k < ((8 : Nat) : Int); omega) (rb _ (by show k.toNat < 8; omega)) ?_
      refine w_iln rfl ?_
      refine w_iald (v := (M.1 s (12 * k + 89).toNat)) (gbr _ (by show k.toNat < 8; omega)) rfl (by show (0 : Int) ≤ 1; omega) (by show 1 < ((12 : Nat) : Int); omega) (lq_rB hG5 (by show k.toNat < 8; omega) (by show (1 : Int).toNat < 12; omega) (by show (12 * k + 89).toNat = 88 + 12 * k.toNat + (1 : Int).toNat; omega)) ?_
      refine w_add ⟨by show (-2147483648 : Int) ≤ (0 + (M.1 s (12 * k + 88).toNat)) + (M.1 s (12 * k + 89).toNat); omega, by show (0 + (M.1 s (12 * k + 88).toNat)) + (M.1 s (12 * k + 89).toNat) < (2147483648 : Int); omega⟩ ?_
      refine w_isn ?_
      show wz _ _ _ _ [some (.inr (.inr (some x))), some (.inl k), some (.inl ((0 + (M.1 s (12 * k + 88).toNat)) + (M.1 s (12 * k + 89).toNat))), some (.inl 1)] _ _ _ _ _
      refine w_ii rfl ⟨by show (-2147483648 : Int) ≤ 2; omega, by show 2 < (2147483648 : Int); omega⟩ ?_
      show wz _ _ _ _ [some (.inr (.inr (some x))), some (.inl k), some (.inl ((0 + (M.1 s (12 * k + 88).toNat)) + (M.1 s (12 * k + 89).toNat))), some (.inl 2)] _ _ _ _ _
      refine w_goto ?_
      refine w_iln rfl ?_
      refine w_bp ?_
      refine w_cmge (fun c3 => ?_) (fun c3 => ?_)
      · exfalso; omega
      · skip
        refine w_iln rfl ?_
        refine w_aln rfl ?_
        refine w_gr gx rfl (by decide) rfl (hB.2.1) ?_
        refine w_gr gnw rfl (by decide) rfl (hN.1) ?_
        refine w_gr gpl rfl (by decide) rfl (p2) ?_
        refine w_iln rfl ?_
        refine w_aald gba rfl (by show (0 : Int) ≤ k; omega) (by show k < ((8 : Nat) : Int); omega) (rb _ (by show k.toNat < 8; omega)) ?_
        refine w_iln rfl ?_
        refine w_iald (v := (M.1 s (12 * k + 90).toNat)) (gbr _ (by show k.toNat < 8; omega)) rfl (by show (0 : Int) ≤ 2; omega) (by show 2 < ((12 : Nat) : Int); omega) (lq_rB hG5 (by show k.toNat < 8; omega) (by show (2 : Int).toNat < 12; omega) (by show (12 * k + 90).toNat = 88 + 12 * k.toNat + (2 : Int).toNat; omega)) ?_
        refine w_add ⟨by show (-2147483648 : Int) ≤ ((0 + (M.1 s (12 * k + 88).toNat)) + (M.1 s (12 * k + 89).toNat)) + (M.1 s (12 * k + 90).toNat); omega, by show ((0 + (M.1 s (12 * k + 88).toNat)) + (M.1 s (12 * k + 89).toNat)) + (M.1 s (12 * k + 90).toNat) < (2147483648 : Int); omega⟩ ?_
        refine w_isn ?_
        show wz _ _ _ _ [some (.inr (.inr (some x))), some (.inl k), some (.inl (((0 + (M.1 s (12 * k + 88).toNat)) + (M.1 s (12 * k + 89).toNat)) + (M.1 s (12 * k + 90).toNat))), some (.inl 2)] _ _ _ _ _
        refine w_ii rfl ⟨by show (-2147483648 : Int) ≤ 3; omega, by show 3 < (2147483648 : Int); omega⟩ ?_
        show wz _ _ _ _ [some (.inr (.inr (some x))), some (.inl k), some (.inl (((0 + (M.1 s (12 * k + 88).toNat)) + (M.1 s (12 * k + 89).toNat)) + (M.1 s (12 * k + 90).toNat))), some (.inl 3)] _ _ _ _ _
        refine w_goto ?_
        refine w_iln rfl ?_
        refine w_bp ?_
        refine w_cmge (fun c4 => ?_) (fun c4 => ?_)
        · exfalso; omega
        · skip
          refine w_iln rfl ?_
          refine w_aln rfl ?_
          refine w_gr gx rfl (by decide) rfl (hB.2.1) ?_
          refine w_gr gnw rfl (by decide) rfl (hN.1) ?_
          refine w_gr gpl rfl (by decide) rfl (p2) ?_
          refine w_iln rfl ?_
          refine w_aald gba rfl (by show (0 : Int) ≤ k; omega) (by show k < ((8 : Nat) : Int); omega) (rb _ (by show k.toNat < 8; omega)) ?_
          refine w_iln rfl ?_
          refine w_iald (v := (M.1 s (12 * k + 91).toNat)) (gbr _ (by show k.toNat < 8; omega)) rfl (by show (0 : Int) ≤ 3; omega) (by show 3 < ((12 : Nat) : Int); omega) (lq_rB hG5 (by show k.toNat < 8; omega) (by show (3 : Int).toNat < 12; omega) (by show (12 * k + 91).toNat = 88 + 12 * k.toNat + (3 : Int).toNat; omega)) ?_
          refine w_add ⟨by show (-2147483648 : Int) ≤ (((0 + (M.1 s (12 * k + 88).toNat)) + (M.1 s (12 * k + 89).toNat)) + (M.1 s (12 * k + 90).toNat)) + (M.1 s (12 * k + 91).toNat); omega, by show (((0 + (M.1 s (12 * k + 88).toNat)) + (M.1 s (12 * k + 89).toNat)) + (M.1 s (12 * k + 90).toNat)) + (M.1 s (12 * k + 91).toNat) < (2147483648 : Int); omega⟩ ?_
          refine w_isn ?_
          show wz _ _ _ _ [some (.inr (.inr (some x))), some (.inl k), some (.inl ((((0 + (M.1 s (12 * k + 88).toNat)) + (M.1 s (12 * k + 89).toNat)) + (M.1 s (12 * k + 90).toNat)) + (M.1 s (12 * k + 91).toNat))), some (.inl 3)] _ _ _ _ _
          refine w_ii rfl ⟨by show (-2147483648 : Int) ≤ 4; omega, by show 4 < (2147483648 : Int); omega⟩ ?_
          show wz _ _ _ _ [some (.inr (.inr (some x))), some (.inl k), some (.inl ((((0 + (M.1 s (12 * k + 88).toNat)) + (M.1 s (12 * k + 89).toNat)) + (M.1 s (12 * k + 90).toNat)) + (M.1 s (12 * k + 91).toNat))), some (.inl 4)] _ _ _ _ _
          refine w_goto ?_
          refine w_iln rfl ?_
          refine w_bp ?_
          refine w_cmge (fun c5 => ?_) (fun c5 => ?_)
          · exfalso; omega
          · skip
            refine w_iln rfl ?_
            refine w_aln rfl ?_
            refine w_gr gx rfl (by decide) rfl (hB.2.1) ?_
            refine w_gr gnw rfl (by decide) rfl (hN.1) ?_
            refine w_gr gpl rfl (by decide) rfl (p2) ?_
            refine w_iln rfl ?_
            refine w_aald gba rfl (by show (0 : Int) ≤ k; omega) (by show k < ((8 : Nat) : Int); omega) (rb _ (by show k.toNat < 8; omega)) ?_
            refine w_iln rfl ?_
            refine w_iald (v := (M.1 s (12 * k + 92).toNat)) (gbr _ (by show k.toNat < 8; omega)) rfl (by show (0 : Int) ≤ 4; omega) (by show 4 < ((12 : Nat) : Int); omega) (lq_rB hG5 (by show k.toNat < 8; omega) (by show (4 : Int).toNat < 12; omega) (by show (12 * k + 92).toNat = 88 + 12 * k.toNat + (4 : Int).toNat; omega)) ?_
            refine w_add ⟨by show (-2147483648 : Int) ≤ ((((0 + (M.1 s (12 * k + 88).toNat)) + (M.1 s (12 * k + 89).toNat)) + (M.1 s (12 * k + 90).toNat)) + (M.1 s (12 * k + 91).toNat)) + (M.1 s (12 * k + 92).toNat); omega, by show ((((0 + (M.1 s (12 * k + 88).toNat)) + (M.1 s (12 * k + 89).toNat)) + (M.1 s (12 * k + 90).toNat)) + (M.1 s (12 * k + 91).toNat)) + (M.1 s (12 * k + 92).toNat) < (2147483648 : Int); omega⟩ ?_
            refine w_isn ?_
            show wz _ _ _ _ [some (.inr (.inr (some x))), some (.inl k), some (.inl (((((0 + (M.1 s (12 * k + 88).toNat)) + (M.1 s (12 * k + 89).toNat)) + (M.1 s (12 * k + 90).toNat)) + (M.1 s (12 * k + 91).toNat)) + (M.1 s (12 * k + 92).toNat))), some (.inl 4)] _ _ _ _ _
            refine w_ii rfl ⟨by show (-2147483648 : Int) ≤ 5; omega, by show 5 < (2147483648 : Int); omega⟩ ?_
            show wz _ _ _ _ [some (.inr (.inr (some x))), some (.inl k), some (.inl (((((0 + (M.1 s (12 * k + 88).toNat)) + (M.1 s (12 * k + 89).toNat)) + (M.1 s (12 * k + 90).toNat)) + (M.1 s (12 * k + 91).toNat)) + (M.1 s (12 * k + 92).toNat))), some (.inl 5)] _ _ _ _ _
            refine w_goto ?_
            refine w_iln rfl ?_
            refine w_bp ?_
            refine w_cmge (fun c6 => ?_) (fun c6 => ?_)
            · exfalso; omega
            · skip
              refine w_iln rfl ?_
              refine w_aln rfl ?_
              refine w_gr gx rfl (by decide) rfl (hB.2.1) ?_
              refine w_gr gnw rfl (by decide) rfl (hN.1) ?_
              refine w_gr gpl rfl (by decide) rfl (p2) ?_
              refine w_iln rfl ?_
              refine w_aald gba rfl (by show (0 : Int) ≤ k; omega) (by show k < ((8 : Nat) : Int); omega) (rb _ (by show k.toNat < 8; omega)) ?_
              refine w_iln rfl ?_
              refine w_iald (v := (M.1 s (12 * k + 93).toNat)) (gbr _ (by show k.toNat < 8; omega)) rfl (by show (0 : Int) ≤ 5; omega) (by show 5 < ((12 : Nat) : Int); omega) (lq_rB hG5 (by show k.toNat < 8; omega) (by show (5 : Int).toNat < 12; omega) (by show (12 * k + 93).toNat = 88 + 12 * k.toNat + (5 : Int).toNat; omega)) ?_
              refine w_add ⟨by show (-2147483648 : Int) ≤ (((((0 + (M.1 s (12 * k + 88).toNat)) + (M.1 s (12 * k + 89).toNat)) + (M.1 s (12 * k + 90).toNat)) + (M.1 s (12 * k + 91).toNat)) + (M.1 s (12 * k + 92).toNat)) + (M.1 s (12 * k + 93).toNat); omega, by show (((((0 + (M.1 s (12 * k + 88).toNat)) + (M.1 s (12 * k + 89).toNat)) + (M.1 s (12 * k + 90).toNat)) + (M.1 s (12 * k + 91).toNat)) + (M.1 s (12 * k + 92).toNat)) + (M.1 s (12 * k + 93).toNat) < (2147483648 : Int); omega⟩ ?_
              refine w_isn ?_
              show wz _ _ _ _ [some (.inr (.inr (some x))), some (.inl k), some (.inl ((((((0 + (M.1 s (12 * k + 88).toNat)) + (M.1 s (12 * k + 89).toNat)) + (M.1 s (12 * k + 90).toNat)) + (M.1 s (12 * k + 91).toNat)) + (M.1 s (12 * k + 92).toNat)) + (M.1 s (12 * k + 93).toNat))), some (.inl 5)] _ _ _ _ _
              refine w_ii rfl ⟨by show (-2147483648 : Int) ≤ 6; omega, by show 6 < (2147483648 : Int); omega⟩ ?_
              show wz _ _ _ _ [some (.inr (.inr (some x))), some (.inl k), some (.inl ((((((0 + (M.1 s (12 * k + 88).toNat)) + (M.1 s (12 * k + 89).toNat)) + (M.1 s (12 * k + 90).toNat)) + (M.1 s (12 * k + 91).toNat)) + (M.1 s (12 * k + 92).toNat)) + (M.1 s (12 * k + 93).toNat))), some (.inl 6)] _ _ _ _ _
              refine w_goto ?_
              refine w_iln rfl ?_
              refine w_bp ?_
              refine w_cmge (fun c7 => ?_) (fun c7 => ?_)
              · exfalso; omega
              · skip
                refine w_iln rfl ?_
                refine w_aln rfl ?_
                refine w_gr gx rfl (by decide) rfl (hB.2.1) ?_
                refine w_gr gnw rfl (by decide) rfl (hN.1) ?_
                refine w_gr gpl rfl (by decide) rfl (p2) ?_
                refine w_iln rfl ?_
                refine w_aald gba rfl (by show (0 : Int) ≤ k; omega) (by show k < ((8 : Nat) : Int); omega) (rb _ (by show k.toNat < 8; omega)) ?_
                refine w_iln rfl ?_
                refine w_iald (v := (M.1 s (12 * k + 94).toNat)) (gbr _ (by show k.toNat < 8; omega)) rfl (by show (0 : Int) ≤ 6; omega) (by show 6 < ((12 : Nat) : Int); omega) (lq_rB hG5 (by show k.toNat < 8; omega) (by show (6 : Int).toNat < 12; omega) (by show (12 * k + 94).toNat = 88 + 12 * k.toNat + (6 : Int).toNat; omega)) ?_
                refine w_add ⟨by show (-2147483648 : Int) ≤ ((((((0 + (M.1 s (12 * k + 88).toNat)) + (M.1 s (12 * k + 89).toNat)) + (M.1 s (12 * k + 90).toNat)) + (M.1 s (12 * k + 91).toNat)) + (M.1 s (12 * k + 92).toNat)) + (M.1 s (12 * k + 93).toNat)) + (M.1 s (12 * k + 94).toNat); omega, by show ((((((0 + (M.1 s (12 * k + 88).toNat)) + (M.1 s (12 * k + 89).toNat)) + (M.1 s (12 * k + 90).toNat)) + (M.1 s (12 * k + 91).toNat)) + (M.1 s (12 * k + 92).toNat)) + (M.1 s (12 * k + 93).toNat)) + (M.1 s (12 * k + 94).toNat) < (2147483648 : Int); omega⟩ ?_
                refine w_isn ?_
                show wz _ _ _ _ [some (.inr (.inr (some x))), some (.inl k), some (.inl (((((((0 + (M.1 s (12 * k + 88).toNat)) + (M.1 s (12 * k + 89).toNat)) + (M.1 s (12 * k + 90).toNat)) + (M.1 s (12 * k + 91).toNat)) + (M.1 s (12 * k + 92).toNat)) + (M.1 s (12 * k + 93).toNat)) + (M.1 s (12 * k + 94).toNat))), some (.inl 6)] _ _ _ _ _
                refine w_ii rfl ⟨by show (-2147483648 : Int) ≤ 7; omega, by show 7 < (2147483648 : Int); omega⟩ ?_
                show wz _ _ _ _ [some (.inr (.inr (some x))), some (.inl k), some (.inl (((((((0 + (M.1 s (12 * k + 88).toNat)) + (M.1 s (12 * k + 89).toNat)) + (M.1 s (12 * k + 90).toNat)) + (M.1 s (12 * k + 91).toNat)) + (M.1 s (12 * k + 92).toNat)) + (M.1 s (12 * k + 93).toNat)) + (M.1 s (12 * k + 94).toNat))), some (.inl 7)] _ _ _ _ _
                refine w_goto ?_
                refine w_iln rfl ?_
                refine w_bp ?_
                refine w_cmge (fun c8 => ?_) (fun c8 => ?_)
                · exfalso; omega
                · skip
                  refine w_iln rfl ?_
                  refine w_aln rfl ?_
                  refine w_gr gx rfl (by decide) rfl (hB.2.1) ?_
                  refine w_gr gnw rfl (by decide) rfl (hN.1) ?_
                  refine w_gr gpl rfl (by decide) rfl (p2) ?_
                  refine w_iln rfl ?_
                  refine w_aald gba rfl (by show (0 : Int) ≤ k; omega) (by show k < ((8 : Nat) : Int); omega) (rb _ (by show k.toNat < 8; omega)) ?_
                  refine w_iln rfl ?_
                  refine w_iald (v := (M.1 s (12 * k + 95).toNat)) (gbr _ (by show k.toNat < 8; omega)) rfl (by show (0 : Int) ≤ 7; omega) (by show 7 < ((12 : Nat) : Int); omega) (lq_rB hG5 (by show k.toNat < 8; omega) (by show (7 : Int).toNat < 12; omega) (by show (12 * k + 95).toNat = 88 + 12 * k.toNat + (7 : Int).toNat; omega)) ?_
                  refine w_add ⟨by show (-2147483648 : Int) ≤ (((((((0 + (M.1 s (12 * k + 88).toNat)) + (M.1 s (12 * k + 89).toNat)) + (M.1 s (12 * k + 90).toNat)) + (M.1 s (12 * k + 91).toNat)) + (M.1 s (12 * k + 92).toNat)) + (M.1 s (12 * k + 93).toNat)) + (M.1 s (12 * k + 94).toNat)) + (M.1 s (12 * k + 95).toNat); omega, by show (((((((0 + (M.1 s (12 * k + 88).toNat)) + (M.1 s (12 * k + 89).toNat)) + (M.1 s (12 * k + 90).toNat)) + (M.1 s (12 * k + 91).toNat)) + (M.1 s (12 * k + 92).toNat)) + (M.1 s (12 * k + 93).toNat)) + (M.1 s (12 * k + 94).toNat)) + (M.1 s (12 * k + 95).toNat) < (2147483648 : Int); omega⟩ ?_
                  refine w_isn ?_
                  show wz _ _ _ _ [some (.inr (.inr (some x))), some (.inl k), some (.inl ((((((((0 + (M.1 s (12 * k + 88).toNat)) + (M.1 s (12 * k + 89).toNat)) + (M.1 s (12 * k + 90).toNat)) + (M.1 s (12 * k + 91).toNat)) + (M.1 s (12 * k + 92).toNat)) + (M.1 s (12 * k + 93).toNat)) + (M.1 s (12 * k + 94).toNat)) + (M.1 s (12 * k + 95).toNat))), some (.inl 7)] _ _ _ _ _
                  refine w_ii rfl ⟨by show (-2147483648 : Int) ≤ 8; omega, by show 8 < (2147483648 : Int); omega⟩ ?_
                  show wz _ _ _ _ [some (.inr (.inr (some x))), some (.inl k), some (.inl ((((((((0 + (M.1 s (12 * k + 88).toNat)) + (M.1 s (12 * k + 89).toNat)) + (M.1 s (12 * k + 90).toNat)) + (M.1 s (12 * k + 91).toNat)) + (M.1 s (12 * k + 92).toNat)) + (M.1 s (12 * k + 93).toNat)) + (M.1 s (12 * k + 94).toNat)) + (M.1 s (12 * k + 95).toNat))), some (.inl 8)] _ _ _ _ _
                  refine w_goto ?_
                  refine w_iln rfl ?_
                  refine w_bp ?_
                  refine w_cmge (fun c9 => ?_) (fun c9 => ?_)
                  · exfalso; omega
                  · skip
                    refine w_iln rfl ?_
                    refine w_aln rfl ?_
                    refine w_gr gx rfl (by decide) rfl (hB.2.1) ?_
                    refine w_gr gnw rfl (by decide) rfl (hN.1) ?_
                    refine w_gr gpl rfl (by decide) rfl (p2) ?_
                    refine w_iln rfl ?_
                    refine w_aald gba rfl (by show (0 : Int) ≤ k; omega) (by show k < ((8 : Nat) : Int); omega) (rb _ (by show k.toNat < 8; omega)) ?_
                    refine w_iln rfl ?_
                    refine w_iald (v := (M.1 s (12 * k + 96).toNat)) (gbr _ (by show k.toNat < 8; omega)) rfl (by show (0 : Int) ≤ 8; omega) (by show 8 < ((12 : Nat) : Int); omega) (lq_rB hG5 (by show k.toNat < 8; omega) (by show (8 : Int).toNat < 12; omega) (by show (12 * k + 96).toNat = 88 + 12 * k.toNat + (8 : Int).toNat; omega)) ?_
                    refine w_add ⟨by show (-2147483648 : Int) ≤ ((((((((0 + (M.1 s (12 * k + 88).toNat)) + (M.1 s (12 * k + 89).toNat)) + (M.1 s (12 * k + 90).toNat)) + (M.1 s (12 * k + 91).toNat)) + (M.1 s (12 * k + 92).toNat)) + (M.1 s (12 * k + 93).toNat)) + (M.1 s (12 * k + 94).toNat)) + (M.1 s (12 * k + 95).toNat)) + (M.1 s (12 * k + 96).toNat); omega, by show ((((((((0 + (M.1 s (12 * k + 88).toNat)) + (M.1 s (12 * k + 89).toNat)) + (M.1 s (12 * k + 90).toNat)) + (M.1 s (12 * k + 91).toNat)) + (M.1 s (12 * k + 92).toNat)) + (M.1 s (12 * k + 93).toNat)) + (M.1 s (12 * k + 94).toNat)) + (M.1 s (12 * k + 95).toNat)) + (M.1 s (12 * k + 96).toNat) < (2147483648 : Int); omega⟩ ?_
                    refine w_isn ?_
                    show wz _ _ _ _ [some (.inr (.inr (some x))), some (.inl k), some (.inl (((((((((0 + (M.1 s (12 * k + 88).toNat)) + (M.1 s (12 * k + 89).toNat)) + (M.1 s (12 * k + 90).toNat)) + (M.1 s (12 * k + 91).toNat)) + (M.1 s (12 * k + 92).toNat)) + (M.1 s (12 * k + 93).toNat)) + (M.1 s (12 * k + 94).toNat)) + (M.1 s (12 * k + 95).toNat)) + (M.1 s (12 * k + 96).toNat))), some (.inl 8)] _ _ _ _ _
                    refine w_ii rfl ⟨by show (-2147483648 : Int) ≤ 9; omega, by show 9 < (2147483648 : Int); omega⟩ ?_
                    show wz _ _ _ _ [some (.inr (.inr (some x))), some (.inl k), some (.inl (((((((((0 + (M.1 s (12 * k + 88).toNat)) + (M.1 s (12 * k + 89).toNat)) + (M.1 s (12 * k + 90).toNat)) + (M.1 s (12 * k + 91).toNat)) + (M.1 s (12 * k + 92).toNat)) + (M.1 s (12 * k + 93).toNat)) + (M.1 s (12 * k + 94).toNat)) + (M.1 s (12 * k + 95).toNat)) + (M.1 s (12 * k + 96).toNat))), some (.inl 9)] _ _ _ _ _
                    refine w_goto ?_
                    refine w_iln rfl ?_
                    refine w_bp ?_
                    refine w_cmge (fun c10 => ?_) (fun c10 => ?_)
                    · exfalso; omega
                    · skip
                      refine w_iln rfl ?_
                      refine w_aln rfl ?_
                      refine w_gr gx rfl (by decide) rfl (hB.2.1) ?_
                      refine w_gr gnw rfl (by decide) rfl (hN.1) ?_
                      refine w_gr gpl rfl (by decide) rfl (p2) ?_
                      refine w_iln rfl ?_
                      refine w_aald gba rfl (by show (0 : Int) ≤ k; omega) (by show k < ((8 : Nat) : Int); omega) (rb _ (by show k.toNat < 8; omega)) ?_
                      refine w_iln rfl ?_
                      refine w_iald (v := (M.1 s (12 * k + 97).toNat)) (gbr _ (by show k.toNat < 8; omega)) rfl (by show (0 : Int) ≤ 9; omega) (by show 9 < ((12 : Nat) : Int); omega) (lq_rB hG5 (by show k.toNat < 8; omega) (by show (9 : Int).toNat < 12; omega) (by show (12 * k + 97).toNat = 88 + 12 * k.toNat + (9 : Int).toNat; omega)) ?_
                      refine w_add ⟨by show (-2147483648 : Int) ≤ (((((((((0 + (M.1 s (12 * k + 88).toNat)) + (M.1 s (12 * k + 89).toNat)) + (M.1 s (12 * k + 90).toNat)) + (M.1 s (12 * k + 91).toNat)) + (M.1 s (12 * k + 92).toNat)) + (M.1 s (12 * k + 93).toNat)) + (M.1 s (12 * k + 94).toNat)) + (M.1 s (12 * k + 95).toNat)) + (M.1 s (12 * k + 96).toNat)) + (M.1 s (12 * k + 97).toNat); omega, by show (((((((((0 + (M.1 s (12 * k + 88).toNat)) + (M.1 s (12 * k + 89).toNat)) + (M.1 s (12 * k + 90).toNat)) + (M.1 s (12 * k + 91).toNat)) + (M.1 s (12 * k + 92).toNat)) + (M.1 s (12 * k + 93).toNat)) + (M.1 s (12 * k + 94).toNat)) + (M.1 s (12 * k + 95).toNat)) + (M.1 s (12 * k + 96).toNat)) + (M.1 s (12 * k + 97).toNat) < (2147483648 : Int); omega⟩ ?_
                      refine w_isn ?_
                      show wz _ _ _ _ [some (.inr (.inr (some x))), some (.inl k), some (.inl ((((((((((0 + (M.1 s (12 * k + 88).toNat)) + (M.1 s (12 * k + 89).toNat)) + (M.1 s (12 * k + 90).toNat)) + (M.1 s (12 * k + 91).toNat)) + (M.1 s (12 * k + 92).toNat)) + (M.1 s (12 * k + 93).toNat)) + (M.1 s (12 * k + 94).toNat)) + (M.1 s (12 * k + 95).toNat)) + (M.1 s (12 * k + 96).toNat)) + (M.1 s (12 * k + 97).toNat))), some (.inl 9)] _ _ _ _ _
                      refine w_ii rfl ⟨by show (-2147483648 : Int) ≤ 10; omega, by show 10 < (2147483648 : Int); omega⟩ ?_
                      show wz _ _ _ _ [some (.inr (.inr (some x))), some (.inl k), some (.inl ((((((((((0 + (M.1 s (12 * k + 88).toNat)) + (M.1 s (12 * k + 89).toNat)) + (M.1 s (12 * k + 90).toNat)) + (M.1 s (12 * k + 91).toNat)) + (M.1 s (12 * k + 92).toNat)) + (M.1 s (12 * k + 93).toNat)) + (M.1 s (12 * k + 94).toNat)) + (M.1 s (12 * k + 95).toNat)) + (M.1 s (12 * k + 96).toNat)) + (M.1 s (12 * k + 97).toNat))), some (.inl 10)] _ _ _ _ _
                      refine w_goto ?_
                      refine w_iln rfl ?_
                      refine w_bp ?_
                      refine w_cmge (fun c11 => ?_) (fun c11 => ?_)
                      · exfalso; omega
                      · skip
                        refine w_iln rfl ?_
                        refine w_aln rfl ?_
                        refine w_gr gx rfl (by decide) rfl (hB.2.1) ?_
                        refine w_gr gnw rfl (by decide) rfl (hN.1) ?_
                        refine w_gr gpl rfl (by decide) rfl (p2) ?_
                        refine w_iln rfl ?_
                        refine w_aald gba rfl (by show (0 : Int) ≤ k; omega) (by show k < ((8 : Nat) : Int); omega) (rb _ (by show k.toNat < 8; omega)) ?_
                        refine w_iln rfl ?_
                        refine w_iald (v := (M.1 s (12 * k + 98).toNat)) (gbr _ (by show k.toNat < 8; omega)) rfl (by show (0 : Int) ≤ 10; omega) (by show 10 < ((12 : Nat) : Int); omega) (lq_rB hG5 (by show k.toNat < 8; omega) (by show (10 : Int).toNat < 12; omega) (by show (12 * k + 98).toNat = 88 + 12 * k.toNat + (10 : Int).toNat; omega)) ?_
                        refine w_add ⟨by show (-2147483648 : Int) ≤ ((((((((((0 + (M.1 s (12 * k + 88).toNat)) + (M.1 s (12 * k + 89).toNat)) + (M.1 s (12 * k + 90).toNat)) + (M.1 s (12 * k + 91).toNat)) + (M.1 s (12 * k + 92).toNat)) + (M.1 s (12 * k + 93).toNat)) + (M.1 s (12 * k + 94).toNat)) + (M.1 s (12 * k + 95).toNat)) + (M.1 s (12 * k + 96).toNat)) + (M.1 s (12 * k + 97).toNat)) + (M.1 s (12 * k + 98).toNat); omega, by show ((((((((((0 + (M.1 s (12 * k + 88).toNat)) + (M.1 s (12 * k + 89).toNat)) + (M.1 s (12 * k + 90).toNat)) + (M.1 s (12 * k + 91).toNat)) + (M.1 s (12 * k + 92).toNat)) + (M.1 s (12 * k + 93).toNat)) + (M.1 s (12 * k + 94).toNat)) + (M.1 s (12 * k + 95).toNat)) + (M.1 s (12 * k + 96).toNat)) + (M.1 s (12 * k + 97).toNat)) + (M.1 s (12 * k + 98).toNat) < (2147483648 : Int); omega⟩ ?_
                        refine w_isn ?_
                        show wz _ _ _ _ [some (.inr (.inr (some x))), some (.inl k), some (.inl (((((((((((0 + (M.1 s (12 * k + 88).toNat)) + (M.1 s (12 * k + 89).toNat)) + (M.1 s (12 * k + 90).toNat)) + (M.1 s (12 * k + 91).toNat)) + (M.1 s (12 * k + 92).toNat)) + (M.1 s (12 * k + 93).toNat)) + (M.1 s (12 * k + 94).toNat)) + (M.1 s (12 * k + 95).toNat)) + (M.1 s (12 * k + 96).toNat)) + (M.1 s (12 * k + 97).toNat)) + (M.1 s (12 * k + 98).toNat))), some (.inl 10)] _ _ _ _ _
                        refine w_ii rfl ⟨by show (-2147483648 : Int) ≤ 11; omega, by show 11 < (2147483648 : Int); omega⟩ ?_
                        show wz _ _ _ _ [some (.inr (.inr (some x))), some (.inl k), some (.inl (((((((((((0 + (M.1 s (12 * k + 88).toNat)) + (M.1 s (12 * k + 89).toNat)) + (M.1 s (12 * k + 90).toNat)) + (M.1 s (12 * k + 91).toNat)) + (M.1 s (12 * k + 92).toNat)) + (M.1 s (12 * k + 93).toNat)) + (M.1 s (12 * k + 94).toNat)) + (M.1 s (12 * k + 95).toNat)) + (M.1 s (12 * k + 96).toNat)) + (M.1 s (12 * k + 97).toNat)) + (M.1 s (12 * k + 98).toNat))), some (.inl 11)] _ _ _ _ _
                        refine w_goto ?_
                        refine w_iln rfl ?_
                        refine w_bp ?_
                        refine w_cmge (fun c12 => ?_) (fun c12 => ?_)
                        · exfalso; omega
                        · skip
                          refine w_iln rfl ?_
                          refine w_aln rfl ?_
                          refine w_gr gx rfl (by decide) rfl (hB.2.1) ?_
                          refine w_gr gnw rfl (by decide) rfl (hN.1) ?_
                          refine w_gr gpl rfl (by decide) rfl (p2) ?_
                          refine w_iln rfl ?_
                          refine w_aald gba rfl (by show (0 : Int) ≤ k; omega) (by show k < ((8 : Nat) : Int); omega) (rb _ (by show k.toNat < 8; omega)) ?_
                          refine w_iln rfl ?_
                          refine w_iald (v := (M.1 s (12 * k + 99).toNat)) (gbr _ (by show k.toNat < 8; omega)) rfl (by show (0 : Int) ≤ 11; omega) (by show 11 < ((12 : Nat) : Int); omega) (lq_rB hG5 (by show k.toNat < 8; omega) (by show (11 : Int).toNat < 12; omega) (by show (12 * k + 99).toNat = 88 + 12 * k.toNat + (11 : Int).toNat; omega)) ?_
                          refine w_add ⟨by show (-2147483648 : Int) ≤ (((((((((((0 + (M.1 s (12 * k + 88).toNat)) + (M.1 s (12 * k + 89).toNat)) + (M.1 s (12 * k + 90).toNat)) + (M.1 s (12 * k + 91).toNat)) + (M.1 s (12 * k + 92).toNat)) + (M.1 s (12 * k + 93).toNat)) + (M.1 s (12 * k + 94).toNat)) + (M.1 s (12 * k + 95).toNat)) + (M.1 s (12 * k + 96).toNat)) + (M.1 s (12 * k + 97).toNat)) + (M.1 s (12 * k + 98).toNat)) + (M.1 s (12 * k + 99).toNat); omega, by show (((((((((((0 + (M.1 s (12 * k + 88).toNat)) + (M.1 s (12 * k + 89).toNat)) + (M.1 s (12 * k + 90).toNat)) + (M.1 s (12 * k + 91).toNat)) + (M.1 s (12 * k + 92).toNat)) + (M.1 s (12 * k + 93).toNat)) + (M.1 s (12 * k + 94).toNat)) + (M.1 s (12 * k + 95).toNat)) + (M.1 s (12 * k + 96).toNat)) + (M.1 s (12 * k + 97).toNat)) + (M.1 s (12 * k + 98).toNat)) + (M.1 s (12 * k + 99).toNat) < (2147483648 : Int); omega⟩ ?_
                          refine w_isn ?_
                          show wz _ _ _ _ [some (.inr (.inr (some x))), some (.inl k), some (.inl ((((((((((((0 + (M.1 s (12 * k + 88).toNat)) + (M.1 s (12 * k + 89).toNat)) + (M.1 s (12 * k + 90).toNat)) + (M.1 s (12 * k + 91).toNat)) + (M.1 s (12 * k + 92).toNat)) + (M.1 s (12 * k + 93).toNat)) + (M.1 s (12 * k + 94).toNat)) + (M.1 s (12 * k + 95).toNat)) + (M.1 s (12 * k + 96).toNat)) + (M.1 s (12 * k + 97).toNat)) + (M.1 s (12 * k + 98).toNat)) + (M.1 s (12 * k + 99).toNat))), some (.inl 11)] _ _ _ _ _
                          refine w_ii rfl ⟨by show (-2147483648 : Int) ≤ 12; omega, by show 12 < (2147483648 : Int); omega⟩ ?_
                          show wz _ _ _ _ [some (.inr (.inr (some x))), some (.inl k), some (.inl ((((((((((((0 + (M.1 s (12 * k + 88).toNat)) + (M.1 s (12 * k + 89).toNat)) + (M.1 s (12 * k + 90).toNat)) + (M.1 s (12 * k + 91).toNat)) + (M.1 s (12 * k + 92).toNat)) + (M.1 s (12 * k + 93).toNat)) + (M.1 s (12 * k + 94).toNat)) + (M.1 s (12 * k + 95).toNat)) + (M.1 s (12 * k + 96).toNat)) + (M.1 s (12 * k + 97).toNat)) + (M.1 s (12 * k + 98).toNat)) + (M.1 s (12 * k + 99).toNat))), some (.inl 12)] _ _ _ _ _
                          refine w_goto ?_
                          refine w_iln rfl ?_
                          refine w_bp ?_
                          refine w_cmge (fun c13 => ?_) (fun c13 => ?_)
                          · skip
                            refine w_iln rfl ?_
                            have e : (((((((((((0 + (M.1 s (12 * k + 88).toNat)) + (M.1 s (12 * k + 89).toNat)) + (M.1 s (12 * k + 90).toNat)) + (M.1 s (12 * k + 91).toNat)) + (M.1 s (12 * k + 92).toNat)) + (M.1 s (12 * k + 93).toNat)) + (M.1 s (12 * k + 94).toNat)) + (M.1 s (12 * k + 95).toNat)) + (M.1 s (12 * k + 96).toNat)) + (M.1 s (12 * k + 97).toNat)) + (M.1 s (12 * k + 98).toNat)) + (M.1 s (12 * k + 99).toNat) = lr_bs (M.1 s) k := by unfold lr_bs; omega
                            rw [← e] at h
                            exact w_iret (fun q => by cases q) h
                          · exfalso; omega
set_option maxRecDepth 100000 in
set_option maxHeartbeats 2000000 in
theorem lr_X11_bidsOf {G : mj_G} {M : mj_M} {x m tp s kp bc bt kc kr : Nat} {w : Nat → Nat} {z1 : Int} (hI : lp_I G M x m tp s kp bc bt kc kr w) (hz1 : mj_in z1) : mj_R mj_tab 40 112 [.inr (.inr (some x)), .inl z1] G M (fun r _ _ => r = some (.inl (lr_bidsOf (M.1 s) z1))) := by
  obtain ⟨hA, hB, p, q, hN, hG6, -⟩ := hI.J
  have hG := hG6.1
  have hG5 := hG6
  obtain ⟨gpl, gna, gta, gba, gwa, gtr, gbr, itr, ibr, p0, p1, p2, p3, rt, rb⟩ := lq_K hA hB hN.pin.1
  have gx := hI.gx
  have gnw := hA.2.2.1
  have b0 := hI.b0
  have bz1 : (-2147483648 : Int) ≤ z1 ∧ z1 < 2147483648 := hz1
  refine ⟨Nat.le_of_ble_eq_true rfl, ?_⟩
  show wz 39 mt_X11_bidsOf.2.2.2.2.1 _ mt_X11_bidsOf.2.2.2.2.1 [some (.inr (.inr (some x))), some (.inl z1), none, none] [] G M _ _
  refine w_aln rfl ?_
  refine w_iln rfl ?_
  refine w_cv (st := []) rfl gx rfl (Nat.le_of_ble_eq_true rfl) (fun kk h => h) ⟨Nat.le_of_ble_eq_true rfl, ?_⟩
  show wz (38) mt_X11_isTown.2.2.2.2.1 _ mt_X11_isTown.2.2.2.2.1 [some (.inr (.inr (some x))), some (.inl z1)] [] _ _ _ _
  refine w_iln rfl ?_
  refine w_iflt (fun c1 => ?_) (fun c1 => ?_)
  · skip
    refine w_ic ?_
    refine w_iret (fun _ => Or.inl rfl) ?_
    refine w_ifne (fun c2 => ?_) (fun c2 => ?_)
    · exfalso; omega
    · skip
      refine w_ic ?_
      exact w_iret (fun q => by cases q) (by show some (Sum.inl _) = some (Sum.inl _); unfold lr_bidsOf; split <;> first | rfl | (exfalso; omega))
  · skip
    refine w_iln rfl ?_
    refine w_aln rfl ?_
    refine w_gr gx rfl (by decide) rfl (hB.2.1) ?_
    refine w_gr gnw rfl (by decide) rfl (hN.1) ?_
    refine w_gi gpl rfl (by decide) rfl (hG.1.symm) ?_
    refine w_cmge (fun c3 => ?_) (fun c3 => ?_)
    · skip
      refine w_ic ?_
      refine w_iret (fun _ => Or.inl rfl) ?_
      refine w_ifne (fun c4 => ?_) (fun c4 => ?_)
      · exfalso; omega
      · skip
        refine w_ic ?_
        exact w_iret (fun q => by cases q) (by show some (Sum.inl _) = some (Sum.inl _); unfold lr_bidsOf; split <;> first | rfl | (exfalso; omega))
    · skip
      refine w_ic ?_
      refine w_goto ?_
      refine w_iret (fun _ => Or.inr rfl) ?_
      refine w_ifne (fun c5 => ?_) (fun c5 => ?_)
      · skip
        exact r_bo1 (d := 39) gx hA hB hN hG5 hI.2.2.2.2.1.1 (by omega) (by omega) (by show some (Sum.inl _) = some (Sum.inl _); unfold lr_bidsOf; rw [if_pos (by omega)])
      · exfalso; omega
set_option maxHeartbeats 4000000 in
theorem r_bo2 {G : mj_G} {M : mj_M} {m s : Nat} {Q : mj_P} {d : Nat} (gm : G m = (1012, 0)) (gs : G s = (51100, 537)) (m6 : M.2.2 m 6 = some s) (hr : rv_r6 (M.1 s) 0) {k : Int} (k1 : 0 ≤ k) (k2 : k < 8) {v2 : Option mj_V} {cb sb : Nat} (h : Q (some (.inl (lr_bs (M.1 s) k))) G M) : wz (d + 1) mt_X12_bidsOf.2.2.2.2.1 Q (mt_X12_bidsOf.2.2.2.2.1.drop 9) [some (.inr (.inr (some m))), some (.inl k), v2, none] [] G M cb sb := by
  have b0 := hr.1.1
  have c0_ := hr.b (j := (12 * k + 88).toNat) (by omega) (by omega)
  have c1_ := hr.b (j := (12 * k + 89).toNat) (by omega) (by omega)
  have c2_ := hr.b (j := (12 * k + 90).toNat) (by omega) (by omega)
  have c3_ := hr.b (j := (12 * k + 91).toNat) (by omega) (by omega)
  have c4_ := hr.b (j := (12 * k + 92).toNat) (by omega) (by omega)
  have c5_ := hr.b (j := (12 * k + 93).toNat) (by omega) (by omega)
  have c6_ := hr.b (j := (12 * k + 94).toNat) (by omega) (by omega)
  have c7_ := hr.b (j := (12 * k + 95).toNat) (by omega) (by omega)
  have c8_ := hr.b (j := (12 * k + 96).toNat) (by omega) (by omega)
  have c9_ := hr.b (j := (12 * k + 97).toNat) (by omega) (by omega)
  have c10_ := hr.b (j := (12 * k + 98).toNat) (by omega) (by omega)
  have c11_ := hr.b (j := (12 * k + 99).toNat) (by omega) (by omega)
  refine w_ic ?_
  refine w_isn ?_
  show wz _ _ _ _ [some (.inr (.inr (some m))), some (.inl k), some (.inl 0), none] _ _ _ _ _
  refine w_ic ?_
  refine w_isn ?_
  show wz _ _ _ _ [some (.inr (.inr (some m))), some (.inl k), some (.inl 0), some (.inl 0)] _ _ _ _ _
  refine w_iln rfl ?_
  refine w_bp ?_
  refine w_cmge (fun c1 => ?_) (fun c1 => ?_)
  · exfalso; omega
  · skip
    refine w_iln rfl ?_
    refine w_aln rfl ?_
    refine w_iln rfl ?_
    refine w_iln rfl ?_
    refine w_cv (st := [.inl 0]) rfl gm rfl (Nat.le_of_ble_eq_true rfl) (fun kk h => h) ⟨Nat.le_of_ble_eq_true rfl, ?_⟩
    show wz (d) mt_X12_bidOf.2.2.2.2.1 _ mt_X12_bidOf.2.2.2.2.1 [some (.inr (.inr (some m))), some (.inl k), some (.inl 0)] [] _ _ _ _
    refine w_aln rfl ?_
    refine w_gr gm rfl (by decide) rfl (m6) ?_
    refine w_bp ?_
    refine w_bp ?_
    refine w_iln rfl ?_
    refine w_mul ⟨by show (-2147483648 : Int) ≤ 12 * k; omega, by show 12 * k < (2147483648 : Int); omega⟩ ?_
    refine w_add ⟨by show (-2147483648 : Int) ≤ 88 + (12 * k); omega, by show 88 + (12 * k) < (2147483648 : Int); omega⟩ ?_
    refine w_iln rfl ?_
    refine w_add ⟨by show (-2147483648 : Int) ≤ (88 + (12 * k)) + 0; omega, by show (88 + (12 * k)) + 0 < (2147483648 : Int); omega⟩ ?_
    refine w_iald (v := (M.1 s (12 * k + 88).toNat)) gs rfl (by show (0 : Int) ≤ (88 + (12 * k)) + 0; omega) (by show (88 + (12 * k)) + 0 < ((537 : Nat) : Int); omega) (congrArg (M.1 s) (by show ((88 + (12 * k)) + 0).toNat = (12 * k + 88).toNat; omega)) ?_
    refine w_iret (fun q => by cases q) ?_
    refine w_add ⟨by show (-2147483648 : Int) ≤ 0 + (M.1 s (12 * k + 88).toNat); omega, by show 0 + (M.1 s (12 * k + 88).toNat) < (2147483648 : Int); omega⟩ ?_
    refine w_isn ?_
    show wz _ _ _ _ [some (.inr (.inr (some m))), some (.inl k), some (.inl (0 + (M.1 s (12 * k + 88).toNat))), some (.inl 0)] _ _ _ _ _
    refine w_ii rfl ⟨by show (-2147483648 : Int) ≤ 1; omega, by show 1 < (2147483648 : Int); omega⟩ ?_
    show wz _ _ _ _ [some (.inr (.inr (some m))), some (.inl k), some (.inl (0 + (M.1 s (12 * k + 88).toNat))), some (.inl 1)] _ _ _ _ _
    refine w_goto ?_
    refine w_iln rfl ?_
    refine w_bp ?_
    refine w_cmge (fun c2 => ?_) (fun c2 => ?_)
    · exfalso; omega
    · skip
      refine w_iln rfl ?_
      refine w_aln rfl ?_
      refine w_iln rfl ?_
      refine w_iln rfl ?_
      refine w_cv (st := [.inl (0 + (M.1 s (12 * k + 88).toNat))]) rfl gm rfl (Nat.le_of_ble_eq_true rfl) (fun kk h => h) ⟨Nat.le_of_ble_eq_true rfl, ?_⟩
      show wz (d) mt_X12_bidOf.2.2.2.2.1 _ mt_X12_bidOf.2.2.2.2.1 [some (.inr (.inr (some m))), some (.inl k), some (.inl 1)] [] _ _ _ _
      refine w_aln rfl ?_
      refine w_gr gm rfl (by decide) rfl (m6) ?_
      refine w_bp ?_
      refine w_bp ?_
      refine w_iln rfl ?_
      refine w_mul ⟨by show (-2147483648 : Int) ≤ 12 * k; omega, by show 12 * k < (2147483648 : Int); omega⟩ ?_
      refine w_add ⟨by show (-2147483648 : Int) ≤ 88 + (12 * k); omega, by show 88 + (12 * k) < (2147483648 : Int); omega⟩ ?_
      refine w_iln rfl ?_
      refine w_add ⟨by show (-2147483648 : Int) ≤ (88 + (12 * k)) + 1; omega, by show (88 + (12 * k)) + 1 < (2147483648 : Int); omega⟩ ?_
      refine w_iald (v := (M.1 s (12 * k + 89).toNat)) gs rfl (by show (0 : Int) ≤ (88 + (12 * k)) + 1; omega) (by show (88 + (12 * k)) + 1 < ((537 : Nat) : Int); omega) (congrArg (M.1 s) (by show ((88 + (12 * k)) + 1).toNat = (12 * k + 89).toNat; omega)) ?_
      refine w_iret (fun q => by cases q) ?_
      refine w_add ⟨by show (-2147483648 : Int) ≤ (0 + (M.1 s (12 * k + 88).toNat)) + (M.1 s (12 * k + 89).toNat); omega, by show (0 + (M.1 s (12 * k + 88).toNat)) + (M.1 s (12 * k + 89).toNat) < (2147483648 : Int); omega⟩ ?_
      refine w_isn ?_
      show wz _ _ _ _ [some (.inr (.inr (some m))), some (.inl k), some (.inl ((0 + (M.1 s (12 * k + 88).toNat)) + (M.1 s (12 * k + 89).toNat))), some (.inl 1)] _ _ _ _ _
      refine w_ii rfl ⟨by show (-2147483648 : Int) ≤ 2; omega, by show 2 < (2147483648 : Int); omega⟩ ?_
      show wz _ _ _ _ [some (.inr (.inr (some m))), some (.inl k), some (.inl ((0 + (M.1 s (12 * k + 88).toNat)) + (M.1 s (12 * k + 89).toNat))), some (.inl 2)] _ _ _ _ _
      refine w_goto ?_
      refine w_iln rfl ?_
      refine w_bp ?_
      refine w_cmge (fun c3 => ?_) (fun c3 => ?_)
      · exfalso; omega
      · skip
        refine w_iln rfl ?_
        refine w_aln rfl ?_
        refine w_iln rfl ?_
        refine w_iln rfl ?_
        refine w_cv (st := [.inl ((0 + (M.1 s (12 * k + 88).toNat)) + (M.1 s (12 * k + 89).toNat))]) rfl gm rfl (Nat.le_of_ble_eq_true rfl) (fun kk h => h) ⟨Nat.le_of_ble_eq_true rfl, ?_⟩
        show wz (d) mt_X12_bidOf.2.2.2.2.1 _ mt_X12_bidOf.2.2.2.2.1 [some (.inr (.inr (some m))), some (.inl k), some (.inl 2)] [] _ _ _ _
        refine w_aln rfl ?_
        refine w_gr gm rfl (by decide) rfl (m6) ?_
        refine w_bp ?_
        refine w_bp ?_
        refine w_iln rfl ?_
        refine w_mul ⟨by show (-2147483648 : Int) ≤ 12 * k; omega, by show 12 * k < (2147483648 : Int); omega⟩ ?_
        refine w_add ⟨by show (-2147483648 : Int) ≤ 88 + (12 * k); omega, by show 88 + (12 * k) < (2147483648 : Int); omega⟩ ?_
        refine w_iln rfl ?_
        refine w_add ⟨by show (-2147483648 : Int) ≤ (88 + (12 * k)) + 2; omega, by show (88 + (12 * k)) + 2 < (2147483648 : Int); omega⟩ ?_
        refine w_iald (v := (M.1 s (12 * k + 90).toNat)) gs rfl (by show (0 : Int) ≤ (88 + (12 * k)) + 2; omega) (by show (88 + (12 * k)) + 2 < ((537 : Nat) : Int); omega) (congrArg (M.1 s) (by show ((88 + (12 * k)) + 2).toNat = (12 * k + 90).toNat; omega)) ?_
        refine w_iret (fun q => by cases q) ?_
        refine w_add ⟨by show (-2147483648 : Int) ≤ ((0 + (M.1 s (12 * k + 88).toNat)) + (M.1 s (12 * k + 89).toNat)) + (M.1 s (12 * k + 90).toNat); omega, by show ((0 + (M.1 s (12 * k + 88).toNat)) + (M.1 s (12 * k + 89).toNat)) + (M.1 s (12 * k + 90).toNat) < (2147483648 : Int); omega⟩ ?_
        refine w_isn ?_
        show wz _ _ _ _ [some (.inr (.inr (some m))), some (.inl k), some (.inl (((0 + (M.1 s (12 * k + 88).toNat)) + (M.1 s (12 * k + 89).toNat)) + (M.1 s (12 * k + 90).toNat))), some (.inl 2)] _ _ _ _ _
        refine w_ii rfl ⟨by show (-2147483648 : Int) ≤ 3; omega, by show 3 < (2147483648 : Int); omega⟩ ?_
        show wz _ _ _ _ [some (.inr (.inr (some m))), some (.inl k), some (.inl (((0 + (M.1 s (12 * k + 88).toNat)) + (M.1 s (12 * k + 89).toNat)) + (M.1 s (12 * k + 90).toNat))), some (.inl 3)] _ _ _ _ _
        refine w_goto ?_
        refine w_iln rfl ?_
        refine w_bp ?_
        refine w_cmge (fun c4 => ?_) (fun c4 => ?_)
        · exfalso; omega
        · skip
          refine w_iln rfl ?_
          refine w_aln rfl ?_
          refine w_iln rfl ?_
          refine w_iln rfl ?_
          refine w_cv (st := [.inl (((0 + (M.1 s (12 * k + 88).toNat)) + (M.1 s (12 * k + 89).toNat)) + (M.1 s (12 * k + 90).toNat))]) rfl gm rfl (Nat.le_of_ble_eq_true rfl) (fun kk h => h) ⟨Nat.le_of_ble_eq_true rfl, ?_⟩
          show wz (d) mt_X12_bidOf.2.2.2.2.1 _ mt_X12_bidOf.2.2.2.2.1 [some (.inr (.inr (some m))), some (.inl k), some (.inl 3)] [] _ _ _ _
          refine w_aln rfl ?_
          refine w_gr gm rfl (by decide) rfl (m6) ?_
          refine w_bp ?_
          refine w_bp ?_
          refine w_iln rfl ?_
          refine w_mul ⟨by show (-2147483648 : Int) ≤ 12 * k; omega, by show 12 * k < (2147483648 : Int); omega⟩ ?_
          refine w_add ⟨by show (-2147483648 : Int) ≤ 88 + (12 * k); omega, by show 88 + (12 * k) < (2147483648 : Int); omega⟩ ?_
          refine w_iln rfl ?_
          refine w_add ⟨by show (-2147483648 : Int) ≤ (88 + (12 * k)) + 3; omega, by show (88 + (12 * k)) + 3 < (2147483648 : Int); omega⟩ ?_
          refine w_iald (v := (M.1 s (12 * k + 91).toNat)) gs rfl (by show (0 : Int) ≤ (88 + (12 * k)) + 3; omega) (by show (88 + (12 * k)) + 3 < ((537 : Nat) : Int); omega) (congrArg (M.1 s) (by show ((88 + (12 * k)) + 3).toNat = (12 * k + 91).toNat; omega)) ?_
          refine w_iret (fun q => by cases q) ?_
          refine w_add ⟨by show (-2147483648 : Int) ≤ (((0 + (M.1 s (12 * k + 88).toNat)) + (M.1 s (12 * k + 89).toNat)) + (M.1 s (12 * k + 90).toNat)) + (M.1 s (12 * k + 91).toNat); omega, by show (((0 + (M.1 s (12 * k + 88).toNat)) + (M.1 s (12 * k + 89).toNat)) + (M.1 s (12 * k + 90).toNat)) + (M.1 s (12 * k + 91).toNat) < (2147483648 : Int); omega⟩ ?_
          refine w_isn ?_
          show wz _ _ _ _ [some (.inr (.inr (some m))), some (.inl k), some (.inl ((((0 + (M.1 s (12 * k + 88).toNat)) + (M.1 s (12 * k + 89).toNat)) + (M.1 s (12 * k + 90).toNat)) + (M.1 s (12 * k + 91).toNat))), some (.inl 3)] _ _ _ _ _
          refine w_ii rfl ⟨by show (-2147483648 : Int) ≤ 4; omega, by show 4 < (2147483648 : Int); omega⟩ ?_
          show wz _ _ _ _ [some (.inr (.inr (some m))), some (.inl k), some (.inl ((((0 + (M.1 s (12 * k + 88).toNat)) + (M.1 s (12 * k + 89).toNat)) + (M.1 s (12 * k + 90).toNat)) + (M.1 s (12 * k + 91).toNat))), some (.inl 4)] _ _ _ _ _
          refine w_goto ?_
          refine w_iln rfl ?_
          refine w_bp ?_
          refine w_cmge (fun c5 => ?_) (fun c5 => ?_)
          · exfalso; omega
          · skip
            refine w_iln rfl ?_
            refine w_aln rfl ?_
            refine w_iln rfl ?_
            refine w_iln rfl ?_
            refine w_cv (st := [.inl ((((0 + (M.1 s (12 * k + 88).toNat)) + (M.1 s (12 * k + 89).toNat)) + (M.1 s (12 * k + 90).toNat)) + (M.1 s (12 * k + 91).toNat))]) rfl gm rfl (Nat.le_of_ble_eq_true rfl) (fun kk h => h) ⟨Nat.le_of_ble_eq_true rfl, ?_⟩
            show wz (d) mt_X12_bidOf.2.2.2.2.1 _ mt_X12_bidOf.2.2.2.2.1 [some (.inr (.inr (some m))), some (.inl k), some (.inl 4)] [] _ _ _ _
            refine w_aln rfl ?_
            refine w_gr gm rfl (by decide) rfl (m6) ?_
            refine w_bp ?_
            refine w_bp ?_
            refine w_iln rfl ?_
            refine w_mul ⟨by show (-2147483648 : Int) ≤ 12 * k; omega, by show 12 * k < (2147483648 : Int); omega⟩ ?_
            refine w_add ⟨by show (-2147483648 : Int) ≤ 88 + (12 * k); omega, by show 88 + (12 * k) < (2147483648 : Int); omega⟩ ?_
            refine w_iln rfl ?_
            refine w_add ⟨by show (-2147483648 : Int) ≤ (88 + (12 * k)) + 4; omega, by show (88 + (12 * k)) + 4 < (2147483648 : Int); omega⟩ ?_
            refine w_iald (v := (M.1 s (12 * k + 92).toNat)) gs rfl (by show (0 : Int) ≤ (88 + (12 * k)) + 4; omega) (by show (88 + (12 * k)) + 4 < ((537 : Nat) : Int); omega) (congrArg (M.1 s) (by show ((88 + (12 * k)) + 4).toNat = (12 * k + 92).toNat; omega)) ?_
            refine w_iret (fun q => by cases q) ?_
            refine w_add ⟨by show (-2147483648 : Int) ≤ ((((0 + (M.1 s (12 * k + 88).toNat)) + (M.1 s (12 * k + 89).toNat)) + (M.1 s (12 * k + 90).toNat)) + (M.1 s (12 * k + 91).toNat)) + (M.1 s (12 * k + 92).toNat); omega, by show ((((0 + (M.1 s (12 * k + 88).toNat)) + (M.1 s (12 * k + 89).toNat)) + (M.1 s (12 * k + 90).toNat)) + (M.1 s (12 * k + 91).toNat)) + (M.1 s (12 * k + 92).toNat) < (2147483648 : Int); omega⟩ ?_
            refine w_isn ?_
            show wz _ _ _ _ [some (.inr (.inr (some m))), some (.inl k), some (.inl (((((0 + (M.1 s (12 * k + 88).toNat)) + (M.1 s (12 * k + 89).toNat)) + (M.1 s (12 * k + 90).toNat)) + (M.1 s (12 * k + 91).toNat)) + (M.1 s (12 * k + 92).toNat))), some (.inl 4)] _ _ _ _ _
            refine w_ii rfl ⟨by show (-2147483648 : Int) ≤ 5; omega, by show 5 < (2147483648 : Int); omega⟩ ?_
            show wz _ _ _ _ [some (.inr (.inr (some m))), some (.inl k), some (.inl (((((0 + (M.1 s (12 * k + 88).toNat)) + (M.1 s (12 * k + 89).toNat)) + (M.1 s (12 * k + 90).toNat)) + (M.1 s (12 * k + 91).toNat)) + (M.1 s (12 * k + 92).toNat))), some (.inl 5)] _ _ _ _ _
            refine w_goto ?_
            refine w_iln rfl ?_
            refine w_bp ?_
            refine w_cmge (fun c6 => ?_) (fun c6 => ?_)
            · exfalso; omega
            · skip
              refine w_iln rfl ?_
              refine w_aln rfl ?_
              refine w_iln rfl ?_
              refine w_iln rfl ?_
              refine w_cv (st := [.inl (((((0 + (M.1 s (12 * k + 88).toNat)) + (M.1 s (12 * k + 89).toNat)) + (M.1 s (12 * k + 90).toNat)) + (M.1 s (12 * k + 91).toNat)) + (M.1 s (12 * k + 92).toNat))]) rfl gm rfl (Nat.le_of_ble_eq_true rfl) (fun kk h => h) ⟨Nat.le_of_ble_eq_true rfl, ?_⟩
              show wz (d) mt_X12_bidOf.2.2.2.2.1 _ mt_X12_bidOf.2.2.2.2.1 [some (.inr (.inr (some m))), some (.inl k), some (.inl 5)] [] _ _ _ _
              refine w_aln rfl ?_
              refine w_gr gm rfl (by decide) rfl (m6) ?_
              refine w_bp ?_
              refine w_bp ?_
              refine w_iln rfl ?_
              refine w_mul ⟨by show (-2147483648 : Int) ≤ 12 * k; omega, by show 12 * k < (2147483648 : Int); omega⟩ ?_
              refine w_add ⟨by show (-2147483648 : Int) ≤ 88 + (12 * k); omega, by show 88 + (12 * k) < (2147483648 : Int); omega⟩ ?_
              refine w_iln rfl ?_
              refine w_add ⟨by show (-2147483648 : Int) ≤ (88 + (12 * k)) + 5; omega, by show (88 + (12 * k)) + 5 < (2147483648 : Int); omega⟩ ?_
              refine w_iald (v := (M.1 s (12 * k + 93).toNat)) gs rfl (by show (0 : Int) ≤ (88 + (12 * k)) + 5; omega) (by show (88 + (12 * k)) + 5 < ((537 : Nat) : Int); omega) (congrArg (M.1 s) (by show ((88 + (12 * k)) + 5).toNat = (12 * k + 93).toNat; omega)) ?_
              refine w_iret (fun q => by cases q) ?_
              refine w_add ⟨by show (-2147483648 : Int) ≤ (((((0 + (M.1 s (12 * k + 88).toNat)) + (M.1 s (12 * k + 89).toNat)) + (M.1 s (12 * k + 90).toNat)) + (M.1 s (12 * k + 91).toNat)) + (M.1 s (12 * k + 92).toNat)) + (M.1 s (12 * k + 93).toNat); omega, by show (((((0 + (M.1 s (12 * k + 88).toNat)) + (M.1 s (12 * k + 89).toNat)) + (M.1 s (12 * k + 90).toNat)) + (M.1 s (12 * k + 91).toNat)) + (M.1 s (12 * k + 92).toNat)) + (M.1 s (12 * k + 93).toNat) < (2147483648 : Int); omega⟩ ?_
              refine w_isn ?_
              show wz _ _ _ _ [some (.inr (.inr (some m))), some (.inl k), some (.inl ((((((0 + (M.1 s (12 * k + 88).toNat)) + (M.1 s (12 * k + 89).toNat)) + (M.1 s (12 * k + 90).toNat)) + (M.1 s (12 * k + 91).toNat)) + (M.1 s (12 * k + 92).toNat)) + (M.1 s (12 * k + 93).toNat))), some (.inl 5)] _ _ _ _ _
              refine w_ii rfl ⟨by show (-2147483648 : Int) ≤ 6; omega, by show 6 < (2147483648 : Int); omega⟩ ?_
              show wz _ _ _ _ [some (.inr (.inr (some m))), some (.inl k), some (.inl ((((((0 + (M.1 s (12 * k + 88).toNat)) + (M.1 s (12 * k + 89).toNat)) + (M.1 s (12 * k + 90).toNat)) + (M.1 s (12 * k + 91).toNat)) + (M.1 s (12 * k + 92).toNat)) + (M.1 s (12 * k + 93).toNat))), some (.inl 6)] _ _ _ _ _
              refine w_goto ?_
              refine w_iln rfl ?_
              refine w_bp ?_
              refine w_cmge (fun c7 => ?_) (fun c7 => ?_)
              · exfalso; omega
              · skip
                refine w_iln rfl ?_
                refine w_aln rfl ?_
                refine w_iln rfl ?_
                refine w_iln rfl ?_
                refine w_cv (st := [.inl ((((((0 + (M.1 s (12 * k + 88).toNat)) + (M.1 s (12 * k + 89).toNat)) + (M.1 s (12 * k + 90).toNat)) + (M.1 s (12 * k + 91).toNat)) + (M.1 s (12 * k + 92).toNat)) + (M.1 s (12 * k + 93).toNat))]) rfl gm rfl (Nat.le_of_ble_eq_true rfl) (fun kk h => h) ⟨Nat.le_of_ble_eq_true rfl, ?_⟩
                show wz (d) mt_X12_bidOf.2.2.2.2.1 _ mt_X12_bidOf.2.2.2.2.1 [some (.inr (.inr (some m))), some (.inl k), some (.inl 6)] [] _ _ _ _
                refine w_aln rfl ?_
                refine w_gr gm rfl (by decide) rfl (m6) ?_
                refine w_bp ?_
                refine w_bp ?_
                refine w_iln rfl ?_
                refine w_mul ⟨by show (-2147483648 : Int) ≤ 12 * k; omega, by show 12 * k < (2147483648 : Int); omega⟩ ?_
                refine w_add ⟨by show (-2147483648 : Int) ≤ 88 + (12 * k); omega, by show 88 + (12 * k) < (2147483648 : Int); omega⟩ ?_
                refine w_iln rfl ?_
                refine w_add ⟨by show (-2147483648 : Int) ≤ (88 + (12 * k)) + 6; omega, by show (88 + (12 * k)) + 6 < (2147483648 : Int); omega⟩ ?_
                refine w_iald (v := (M.1 s (12 * k + 94).toNat)) gs rfl (by show (0 : Int) ≤ (88 + (12 * k)) + 6; omega) (by show (88 + (12 * k)) + 6 < ((537 : Nat) : Int); omega) (congrArg (M.1 s) (by show ((88 + (12 * k)) + 6).toNat = (12 * k + 94).toNat; omega)) ?_
                refine w_iret (fun q => by cases q) ?_
                refine w_add ⟨by show (-2147483648 : Int) ≤ ((((((0 + (M.1 s (12 * k + 88).toNat)) + (M.1 s (12 * k + 89).toNat)) + (M.1 s (12 * k + 90).toNat)) + (M.1 s (12 * k + 91).toNat)) + (M.1 s (12 * k + 92).toNat)) + (M.1 s (12 * k + 93).toNat)) + (M.1 s (12 * k + 94).toNat); omega, by show ((((((0 + (M.1 s (12 * k + 88).toNat)) + (M.1 s (12 * k + 89).toNat)) + (M.1 s (12 * k + 90).toNat)) + (M.1 s (12 * k + 91).toNat)) + (M.1 s (12 * k + 92).toNat)) + (M.1 s (12 * k + 93).toNat)) + (M.1 s (12 * k + 94).toNat) < (2147483648 : Int); omega⟩ ?_
                refine w_isn ?_
                show wz _ _ _ _ [some (.inr (.inr (some m))), some (.inl k), some (.inl (((((((0 + (M.1 s (12 * k + 88).toNat)) + (M.1 s (12 * k + 89).toNat)) + (M.1 s (12 * k + 90).toNat)) + (M.1 s (12 * k + 91).toNat)) + (M.1 s (12 * k + 92).toNat)) + (M.1 s (12 * k + 93).toNat)) + (M.1 s (12 * k + 94).toNat))), some (.inl 6)] _ _ _ _ _
                refine w_ii rfl ⟨by show (-2147483648 : Int) ≤ 7; omega, by show 7 < (2147483648 : Int); omega⟩ ?_
                show wz _ _ _ _ [some (.inr (.inr (some m))), some (.inl k), some (.inl (((((((0 + (M.1 s (12 * k + 88).toNat)) + (M.1 s (12 * k + 89).toNat)) + (M.1 s (12 * k + 90).toNat)) + (M.1 s (12 * k + 91).toNat)) + (M.1 s (12 * k + 92).toNat)) + (M.1 s (12 * k + 93).toNat)) + (M.1 s (12 * k + 94).toNat))), some (.inl 7)] _ _ _ _ _
                refine w_goto ?_
                refine w_iln rfl ?_
                refine w_bp ?_
                refine w_cmge (fun c8 => ?_) (fun c8 => ?_)
                · exfalso; omega
                · skip
                  refine w_iln rfl ?_
                  refine w_aln rfl ?_
                  refine w_iln rfl ?_
                  refine w_iln rfl ?_
                  refine w_cv (st := [.inl (((((((0 + (M.1 s (12 * k + 88).toNat)) + (M.1 s (12 * k + 89).toNat)) + (M.1 s (12 * k + 90).toNat)) + (M.1 s (12 * k + 91).toNat)) + (M.1 s (12 * k + 92).toNat)) + (M.1 s (12 * k + 93).toNat)) + (M.1 s (12 * k + 94).toNat))]) rfl gm rfl (Nat.le_of_ble_eq_true rfl) (fun kk h => h) ⟨Nat.le_of_ble_eq_true rfl, ?_⟩
                  show wz (d) mt_X12_bidOf.2.2.2.2.1 _ mt_X12_bidOf.2.2.2.2.1 [some (.inr (.inr (some m))), some (.inl k), some (.inl 7)] [] _ _ _ _
                  refine w_aln rfl ?_
                  refine w_gr gm rfl (by decide) rfl (m6) ?_
                  refine w_bp ?_
                  refine w_bp ?_
                  refine w_iln rfl ?_
                  refine w_mul ⟨by show (-2147483648 : Int) ≤ 12 * k; omega, by show 12 * k < (2147483648 : Int); omega⟩ ?_
                  refine w_add ⟨by show (-2147483648 : Int) ≤ 88 + (12 * k); omega, by show 88 + (12 * k) < (2147483648 : Int); omega⟩ ?_
                  refine w_iln rfl ?_
                  refine w_add ⟨by show (-2147483648 : Int) ≤ (88 + (12 * k)) + 7; omega, by show (88 + (12 * k)) + 7 < (2147483648 : Int); omega⟩ ?_
                  refine w_iald (v := (M.1 s (12 * k + 95).toNat)) gs rfl (by show (0 : Int) ≤ (88 + (12 * k)) + 7; omega) (by show (88 + (12 * k)) + 7 < ((537 : Nat) : Int); omega) (congrArg (M.1 s) (by show ((88 + (12 * k)) + 7).toNat = (12 * k + 95).toNat; omega)) ?_
                  refine w_iret (fun q => by cases q) ?_
                  refine w_add ⟨by show (-2147483648 : Int) ≤ (((((((0 + (M.1 s (12 * k + 88).toNat)) + (M.1 s (12 * k + 89).toNat)) + (M.1 s (12 * k + 90).toNat)) + (M.1 s (12 * k + 91).toNat)) + (M.1 s (12 * k + 92).toNat)) + (M.1 s (12 * k + 93).toNat)) + (M.1 s (12 * k + 94).toNat)) + (M.1 s (12 * k + 95).toNat); omega, by show (((((((0 + (M.1 s (12 * k + 88).toNat)) + (M.1 s (12 * k + 89).toNat)) + (M.1 s (12 * k + 90).toNat)) + (M.1 s (12 * k + 91).toNat)) + (M.1 s (12 * k + 92).toNat)) + (M.1 s (12 * k + 93).toNat)) + (M.1 s (12 * k + 94).toNat)) + (M.1 s (12 * k + 95).toNat) < (2147483648 : Int); omega⟩ ?_
                  refine w_isn ?_
                  show wz _ _ _ _ [some (.inr (.inr (some m))), some (.inl k), some (.inl ((((((((0 + (M.1 s (12 * k + 88).toNat)) + (M.1 s (12 * k + 89).toNat)) + (M.1 s (12 * k + 90).toNat)) + (M.1 s (12 * k + 91).toNat)) + (M.1 s (12 * k + 92).toNat)) + (M.1 s (12 * k + 93).toNat)) + (M.1 s (12 * k + 94).toNat)) + (M.1 s (12 * k + 95).toNat))), some (.inl 7)] _ _ _ _ _
                  refine w_ii rfl ⟨by show (-2147483648 : Int) ≤ 8; omega, by show 8 < (2147483648 : Int); omega⟩ ?_
                  show wz _ _ _ _ [some (.inr (.inr (some m))), some (.inl k), some (.inl ((((((((0 + (M.1 s (12 * k + 88).toNat)) + (M.1 s (12 * k + 89).toNat)) + (M.1 s (12 * k + 90).toNat)) + (M.1 s (12 * k + 91).toNat)) + (M.1 s (12 * k + 92).toNat)) + (M.1 s (12 * k + 93).toNat)) + (M.1 s (12 * k + 94).toNat)) + (M.1 s (12 * k + 95).toNat))), some (.inl 8)] _ _ _ _ _
                  refine w_goto ?_
                  refine w_iln rfl ?_
                  refine w_bp ?_
                  refine w_cmge (fun c9 => ?_) (fun c9 => ?_)
                  · exfalso; omega
                  · skip
                    refine w_iln rfl ?_
                    refine w_aln rfl ?_
                    refine w_iln rfl ?_
                    refine w_iln rfl ?_
                    refine w_cv (st := [.inl ((((((((0 + (M.1 s (12 * k + 88).toNat)) + (M.1 s (12 * k + 89).toNat)) + (M.1 s (12 * k + 90).toNat)) + (M.1 s (12 * k + 91).toNat)) + (M.1 s (12 * k + 92).toNat)) + (M.1 s (12 * k + 93).toNat)) + (M.1 s (12 * k + 94).toNat)) + (M.1 s (12 * k + 95).toNat))]) rfl gm rfl (Nat.le_of_ble_eq_true rfl) (fun kk h => h) ⟨Nat.le_of_ble_eq_true rfl, ?_⟩
                    show wz (d) mt_X12_bidOf.2.2.2.2.1 _ mt_X12_bidOf.2.2.2.2.1 [some (.inr (.inr (some m))), some (.inl k), some (.inl 8)] [] _ _ _ _
                    refine w_aln rfl ?_
                    refine w_gr gm rfl (by decide) rfl (m6) ?_
                    refine w_bp ?_
                    refine w_bp ?_
                    refine w_iln rfl ?_
                    refine w_mul ⟨by show (-2147483648 : Int) ≤ 12 * k; omega, by show 12 * k < (2147483648 : Int); omega⟩ ?_
                    refine w_add ⟨by show (-2147483648 : Int) ≤ 88 + (12 * k); omega, by show 88 + (12 * k) < (2147483648 : Int); omega⟩ ?_
                    refine w_iln rfl ?_
                    refine w_add ⟨by show (-2147483648 : Int) ≤ (88 + (12 * k)) + 8; omega, by show (88 + (12 * k)) + 8 < (2147483648 : Int); omega⟩ ?_
                    refine w_iald (v := (M.1 s (12 * k + 96).toNat)) gs rfl (by show (0 : Int) ≤ (88 + (12 * k)) + 8; omega) (by show (88 + (12 * k)) + 8 < ((537 : Nat) : Int); omega) (congrArg (M.1 s) (by show ((88 + (12 * k)) + 8).toNat = (12 * k + 96).toNat; omega)) ?_
                    refine w_iret (fun q => by cases q) ?_
                    refine w_add ⟨by show (-2147483648 : Int) ≤ ((((((((0 + (M.1 s (12 * k + 88).toNat)) + (M.1 s (12 * k + 89).toNat)) + (M.1 s (12 * k + 90).toNat)) + (M.1 s (12 * k + 91).toNat)) + (M.1 s (12 * k + 92).toNat)) + (M.1 s (12 * k + 93).toNat)) + (M.1 s (12 * k + 94).toNat)) + (M.1 s (12 * k + 95).toNat)) + (M.1 s (12 * k + 96).toNat); omega, by show ((((((((0 + (M.1 s (12 * k + 88).toNat)) + (M.1 s (12 * k + 89).toNat)) + (M.1 s (12 * k + 90).toNat)) + (M.1 s (12 * k + 91).toNat)) + (M.1 s (12 * k + 92).toNat)) + (M.1 s (12 * k + 93).toNat)) + (M.1 s (12 * k + 94).toNat)) + (M.1 s (12 * k + 95).toNat)) + (M.1 s (12 * k + 96).toNat) < (2147483648 : Int); omega⟩ ?_
                    refine w_isn ?_
                    show wz _ _ _ _ [some (.inr (.inr (some m))), some (.inl k), some (.inl (((((((((0 + (M.1 s (12 * k + 88).toNat)) + (M.1 s (12 * k + 89).toNat)) + (M.1 s (12 * k + 90).toNat)) + (M.1 s (12 * k + 91).toNat)) + (M.1 s (12 * k + 92).toNat)) + (M.1 s (12 * k + 93).toNat)) + (M.1 s (12 * k + 94).toNat)) + (M.1 s (12 * k + 95).toNat)) + (M.1 s (12 * k + 96).toNat))), some (.inl 8)] _ _ _ _ _
                    refine w_ii rfl ⟨by show (-2147483648 : Int) ≤ 9; omega, by show 9 < (2147483648 : Int); omega⟩ ?_
                    show wz _ _ _ _ [some (.inr (.inr (some m))), some (.inl k), some (.inl (((((((((0 + (M.1 s (12 * k + 88).toNat)) + (M.1 s (12 * k + 89).toNat)) + (M.1 s (12 * k + 90).toNat)) + (M.1 s (12 * k + 91).toNat)) + (M.1 s (12 * k + 92).toNat)) + (M.1 s (12 * k + 93).toNat)) + (M.1 s (12 * k + 94).toNat)) + (M.1 s (12 * k + 95).toNat)) + (M.1 s (12 * k + 96).toNat))), some (.inl 9)] _ _ _ _ _
                    refine w_goto ?_
                    refine w_iln rfl ?_
                    refine w_bp ?_
                    refine w_cmge (fun c10 => ?_) (fun c10 => ?_)
                    · exfalso; omega
                    · skip
                      refine w_iln rfl ?_
                      refine w_aln rfl ?_
                      refine w_iln rfl ?_
                      refine w_iln rfl ?_
                      refine w_cv (st := [.inl (((((((((0 + (M.1 s (12 * k + 88).toNat)) + (M.1 s (12 * k + 89).toNat)) + (M.1 s (12 * k + 90).toNat)) + (M.1 s (12 * k + 91).toNat)) + (M.1 s (12 * k + 92).toNat)) + (M.1 s (12 * k + 93).toNat)) + (M.1 s (12 * k + 94).toNat)) + (M.1 s (12 * k + 95).toNat)) + (M.1 s (12 * k + 96).toNat))]) rfl gm rfl (Nat.le_of_ble_eq_true rfl) (fun kk h => h) ⟨Nat.le_of_ble_eq_true rfl, ?_⟩
                      show wz (d) mt_X12_bidOf.2.2.2.2.1 _ mt_X12_bidOf.2.2.2.2.1 [some (.inr (.inr (some m))), some (.inl k), some (.inl 9)] [] _ _ _ _
                      refine w_aln rfl ?_
                      refine w_gr gm rfl (by decide) rfl (m6) ?_
                      refine w_bp ?_
                      refine w_bp ?_
                      refine w_iln rfl ?_
                      refine w_mul ⟨by show (-2147483648 : Int) ≤ 12 * k; omega, by show 12 * k < (2147483648 : Int); omega⟩ ?_
                      refine w_add ⟨by show (-2147483648 : Int) ≤ 88 + (12 * k); omega, by show 88 + (12 * k) < (2147483648 : Int); omega⟩ ?_
                      refine w_iln rfl ?_
                      refine w_add ⟨by show (-2147483648 : Int) ≤ (88 + (12 * k)) + 9; omega, by show (88 + (12 * k)) + 9 < (2147483648 : Int); omega⟩ ?_
                      refine w_iald (v := (M.1 s (12 * k + 97).toNat)) gs rfl (by show (0 : Int) ≤ (88 + (12 * k)) + 9; omega) (by show (88 + (12 * k)) + 9 < ((537 : Nat) : Int); omega) (congrArg (M.1 s) (by show ((88 + (12 * k)) + 9).toNat = (12 * k + 97).toNat; omega)) ?_
                      refine w_iret (fun q => by cases q) ?_
                      refine w_add ⟨by show (-2147483648 : Int) ≤ (((((((((0 + (M.1 s (12 * k + 88).toNat)) + (M.1 s (12 * k + 89).toNat)) + (M.1 s (12 * k + 90).toNat)) + (M.1 s (12 * k + 91).toNat)) + (M.1 s (12 * k + 92).toNat)) + (M.1 s (12 * k + 93).toNat)) + (M.1 s (12 * k + 94).toNat)) + (M.1 s (12 * k + 95).toNat)) + (M.1 s (12 * k + 96).toNat)) + (M.1 s (12 * k + 97).toNat); omega, by show (((((((((0 + (M.1 s (12 * k + 88).toNat)) + (M.1 s (12 * k + 89).toNat)) + (M.1 s (12 * k + 90).toNat)) + (M.1 s (12 * k + 91).toNat)) + (M.1 s (12 * k + 92).toNat)) + (M.1 s (12 * k + 93).toNat)) + (M.1 s (12 * k + 94).toNat)) + (M.1 s (12 * k + 95).toNat)) + (M.1 s (12 * k + 96).toNat)) + (M.1 s (12 * k + 97).toNat) < (2147483648 : Int); omega⟩ ?_
                      refine w_isn ?_
                      show wz _ _ _ _ [some (.inr (.inr (some m))), some (.inl k), some (.inl ((((((((((0 + (M.1 s (12 * k + 88).toNat)) + (M.1 s (12 * k + 89).toNat)) + (M.1 s (12 * k + 90).toNat)) + (M.1 s (12 * k + 91).toNat)) + (M.1 s (12 * k + 92).toNat)) + (M.1 s (12 * k + 93).toNat)) + (M.1 s (12 * k + 94).toNat)) + (M.1 s (12 * k + 95).toNat)) + (M.1 s (12 * k + 96).toNat)) + (M.1 s (12 * k + 97).toNat))), some (.inl 9)] _ _ _ _ _
                      refine w_ii rfl ⟨by show (-2147483648 : Int) ≤ 10; omega, by show 10 < (2147483648 : Int); omega⟩ ?_
                      show wz _ _ _ _ [some (.inr (.inr (some m))), some (.inl k), some (.inl ((((((((((0 + (M.1 s (12 * k + 88).toNat)) + (M.1 s (12 * k + 89).toNat)) + (M.1 s (12 * k + 90).toNat)) + (M.1 s (12 * k + 91).toNat)) + (M.1 s (12 * k + 92).toNat)) + (M.1 s (12 * k + 93).toNat)) + (M.1 s (12 * k + 94).toNat)) + (M.1 s (12 * k + 95).toNat)) + (M.1 s (12 * k + 96).toNat)) + (M.1 s (12 * k + 97).toNat))), some (.inl 10)] _ _ _ _ _
                      refine w_goto ?_
                      refine w_iln rfl ?_
                      refine w_bp ?_
                      refine w_cmge (fun c11 => ?_) (fun c11 => ?_)
                      · exfalso; omega
                      · skip
                        refine w_iln rfl ?_
                        refine w_aln rfl ?_
                        refine w_iln rfl ?_
                        refine w_iln rfl ?_
                        refine w_cv (st := [.inl ((((((((((0 + (M.1 s (12 * k + 88).toNat)) + (M.1 s (12 * k + 89).toNat)) + (M.1 s (12 * k + 90).toNat)) + (M.1 s (12 * k + 91).toNat)) + (M.1 s (12 * k + 92).toNat)) + (M.1 s (12 * k + 93).toNat)) + (M.1 s (12 * k + 94).toNat)) + (M.1 s (12 * k + 95).toNat)) + (M.1 s (12 * k + 96).toNat)) + (M.1 s (12 * k + 97).toNat))]) rfl gm rfl (Nat.le_of_ble_eq_true rfl) (fun kk h => h) ⟨Nat.le_of_ble_eq_true rfl, ?_⟩
                        show wz (d) mt_X12_bidOf.2.2.2.2.1 _ mt_X12_bidOf.2.2.2.2.1 [some (.inr (.inr (some m))), some (.inl k), some (.inl 10)] [] _ _ _ _
                        refine w_aln rfl ?_
                        refine w_gr gm rfl (by decide) rfl (m6) ?_
                        refine w_bp ?_
                        refine w_bp ?_
                        refine w_iln rfl ?_
                        refine w_mul ⟨by show (-2147483648 : Int) ≤ 12 * k; omega, by show 12 * k < (2147483648 : Int); omega⟩ ?_
                        refine w_add ⟨by show (-2147483648 : Int) ≤ 88 + (12 * k); omega, by show 88 + (12 * k) < (2147483648 : Int); omega⟩ ?_
                        refine w_iln rfl ?_
                        refine w_add ⟨by show (-2147483648 : Int) ≤ (88 + (12 * k)) + 10; omega, by show (88 + (12 * k)) + 10 < (2147483648 : Int); omega⟩ ?_
                        refine w_iald (v := (M.1 s (12 * k + 98).toNat)) gs rfl (by show (0 : Int) ≤ (88 + (12 * k)) + 10; omega) (by show (88 + (12 * k)) + 10 < ((537 : Nat) : Int); omega) (congrArg (M.1 s) (by show ((88 + (12 * k)) + 10).toNat = (12 * k + 98).toNat; omega)) ?_
                        refine w_iret (fun q => by cases q) ?_
                        refine w_add ⟨by show (-2147483648 : Int) ≤ ((((((((((0 + (M.1 s (12 * k + 88).toNat)) + (M.1 s (12 * k + 89).toNat)) + (M.1 s (12 * k + 90).toNat)) + (M.1 s (12 * k + 91).toNat)) + (M.1 s (12 * k + 92).toNat)) + (M.1 s (12 * k + 93).toNat)) + (M.1 s (12 * k + 94).toNat)) + (M.1 s (12 * k + 95).toNat)) + (M.1 s (12 * k + 96).toNat)) + (M.1 s (12 * k + 97).toNat)) + (M.1 s (12 * k + 98).toNat); omega, by show ((((((((((0 + (M.1 s (12 * k + 88).toNat)) + (M.1 s (12 * k + 89).toNat)) + (M.1 s (12 * k + 90).toNat)) + (M.1 s (12 * k + 91).toNat)) + (M.1 s (12 * k + 92).toNat)) + (M.1 s (12 * k + 93).toNat)) + (M.1 s (12 * k + 94).toNat)) + (M.1 s (12 * k + 95).toNat)) + (M.1 s (12 * k + 96).toNat)) + (M.1 s (12 * k + 97).toNat)) + (M.1 s (12 * k + 98).toNat) < (2147483648 : Int); omega⟩ ?_
                        refine w_isn ?_
                        show wz _ _ _ _ [some (.inr (.inr (some m))), some (.inl k), some (.inl (((((((((((0 + (M.1 s (12 * k + 88).toNat)) + (M.1 s (12 * k + 89).toNat)) + (M.1 s (12 * k + 90).toNat)) + (M.1 s (12 * k + 91).toNat)) + (M.1 s (12 * k + 92).toNat)) + (M.1 s (12 * k + 93).toNat)) + (M.1 s (12 * k + 94).toNat)) + (M.1 s (12 * k + 95).toNat)) + (M.1 s (12 * k + 96).toNat)) + (M.1 s (12 * k + 97).toNat)) + (M.1 s (12 * k + 98).toNat))), some (.inl 10)] _ _ _ _ _
                        refine w_ii rfl ⟨by show (-2147483648 : Int) ≤ 11; omega, by show 11 < (2147483648 : Int); omega⟩ ?_
                        show wz _ _ _ _ [some (.inr (.inr (some m))), some (.inl k), some (.inl (((((((((((0 + (M.1 s (12 * k + 88).toNat)) + (M.1 s (12 * k + 89).toNat)) + (M.1 s (12 * k + 90).toNat)) + (M.1 s (12 * k + 91).toNat)) + (M.1 s (12 * k + 92).toNat)) + (M.1 s (12 * k + 93).toNat)) + (M.1 s (12 * k + 94).toNat)) + (M.1 s (12 * k + 95).toNat)) + (M.1 s (12 * k + 96).toNat)) + (M.1 s (12 * k + 97).toNat)) + (M.1 s (12 * k + 98).toNat))), some (.inl 11)] _ _ _ _ _
                        refine w_goto ?_
                        refine w_iln rfl ?_
                        refine w_bp ?_
                        refine w_cmge (fun c12 => ?_) (fun c12 => ?_)
                        · exfalso; omega
                        · skip
                          refine w_iln rfl ?_
                          refine w_aln rfl ?_
                          refine w_iln rfl ?_
                          refine w_iln rfl ?_
                          refine w_cv (st := [.inl (((((((((((0 + (M.1 s (12 * k + 88).toNat)) + (M.1 s (12 * k + 89).toNat)) + (M.1 s (12 * k + 90).toNat)) + (M.1 s (12 * k + 91).toNat)) + (M.1 s (12 * k + 92).toNat)) + (M.1 s (12 * k + 93).toNat)) + (M.1 s (12 * k + 94).toNat)) + (M.1 s (12 * k + 95).toNat)) + (M.1 s (12 * k + 96).toNat)) + (M.1 s (12 * k + 97).toNat)) + (M.1 s (12 * k + 98).toNat))]) rfl gm rfl (Nat.le_of_ble_eq_true rfl) (fun kk h => h) ⟨Nat.le_of_ble_eq_true rfl, ?_⟩
                          show wz (d) mt_X12_bidOf.2.2.2.2.1 _ mt_X12_bidOf.2.2.2.2.1 [some (.inr (.inr (some m))), some (.inl k), some (.inl 11)] [] _ _ _ _
                          refine w_aln rfl ?_
                          refine w_gr gm rfl (by decide) rfl (m6) ?_
                          refine w_bp ?_
                          refine w_bp ?_
                          refine w_iln rfl ?_
                          refine w_mul ⟨by show (-2147483648 : Int) ≤ 12 * k; omega, by show 12 * k < (2147483648 : Int); omega⟩ ?_
                          refine w_add ⟨by show (-2147483648 : Int) ≤ 88 + (12 * k); omega, by show 88 + (12 * k) < (2147483648 : Int); omega⟩ ?_
                          refine w_iln rfl ?_
                          refine w_add ⟨by show (-2147483648 : Int) ≤ (88 + (12 * k)) + 11; omega, by show (88 + (12 * k)) + 11 < (2147483648 : Int); omega⟩ ?_
                          refine w_iald (v := (M.1 s (12 * k + 99).toNat)) gs rfl (by show (0 : Int) ≤ (88 + (12 * k)) + 11; omega) (by show (88 + (12 * k)) + 11 < ((537 : Nat) : Int); omega) (congrArg (M.1 s) (by show ((88 + (12 * k)) + 11).toNat = (12 * k + 99).toNat; omega)) ?_
                          refine w_iret (fun q => by cases q) ?_
                          refine w_add ⟨by show (-2147483648 : Int) ≤ (((((((((((0 + (M.1 s (12 * k + 88).toNat)) + (M.1 s (12 * k + 89).toNat)) + (M.1 s (12 * k + 90).toNat)) + (M.1 s (12 * k + 91).toNat)) + (M.1 s (12 * k + 92).toNat)) + (M.1 s (12 * k + 93).toNat)) + (M.1 s (12 * k + 94).toNat)) + (M.1 s (12 * k + 95).toNat)) + (M.1 s (12 * k + 96).toNat)) + (M.1 s (12 * k + 97).toNat)) + (M.1 s (12 * k + 98).toNat)) + (M.1 s (12 * k + 99).toNat); omega, by show (((((((((((0 + (M.1 s (12 * k + 88).toNat)) + (M.1 s (12 * k + 89).toNat)) + (M.1 s (12 * k + 90).toNat)) + (M.1 s (12 * k + 91).toNat)) + (M.1 s (12 * k + 92).toNat)) + (M.1 s (12 * k + 93).toNat)) + (M.1 s (12 * k + 94).toNat)) + (M.1 s (12 * k + 95).toNat)) + (M.1 s (12 * k + 96).toNat)) + (M.1 s (12 * k + 97).toNat)) + (M.1 s (12 * k + 98).toNat)) + (M.1 s (12 * k + 99).toNat) < (2147483648 : Int); omega⟩ ?_
                          refine w_isn ?_
                          show wz _ _ _ _ [some (.inr (.inr (some m))), some (.inl k), some (.inl ((((((((((((0 + (M.1 s (12 * k + 88).toNat)) + (M.1 s (12 * k + 89).toNat)) + (M.1 s (12 * k + 90).toNat)) + (M.1 s (12 * k + 91).toNat)) + (M.1 s (12 * k + 92).toNat)) + (M.1 s (12 * k + 93).toNat)) + (M.1 s (12 * k + 94).toNat)) + (M.1 s (12 * k + 95).toNat)) + (M.1 s (12 * k + 96).toNat)) + (M.1 s (12 * k + 97).toNat)) + (M.1 s (12 * k + 98).toNat)) + (M.1 s (12 * k + 99).toNat))), some (.inl 11)] _ _ _ _ _
                          refine w_ii rfl ⟨by show (-2147483648 : Int) ≤ 12; omega, by show 12 < (2147483648 : Int); omega⟩ ?_
                          show wz _ _ _ _ [some (.inr (.inr (some m))), some (.inl k), some (.inl ((((((((((((0 + (M.1 s (12 * k + 88).toNat)) + (M.1 s (12 * k + 89).toNat)) + (M.1 s (12 * k + 90).toNat)) + (M.1 s (12 * k + 91).toNat)) + (M.1 s (12 * k + 92).toNat)) + (M.1 s (12 * k + 93).toNat)) + (M.1 s (12 * k + 94).toNat)) + (M.1 s (12 * k + 95).toNat)) + (M.1 s (12 * k + 96).toNat)) + (M.1 s (12 * k + 97).toNat)) + (M.1 s (12 * k + 98).toNat)) + (M.1 s (12 * k + 99).toNat))), some (.inl 12)] _ _ _ _ _
                          refine w_goto ?_
                          refine w_iln rfl ?_
                          refine w_bp ?_
                          refine w_cmge (fun c13 => ?_) (fun c13 => ?_)
                          · skip
                            refine w_iln rfl ?_
                            have e : (((((((((((0 + (M.1 s (12 * k + 88).toNat)) + (M.1 s (12 * k + 89).toNat)) + (M.1 s (12 * k + 90).toNat)) + (M.1 s (12 * k + 91).toNat)) + (M.1 s (12 * k + 92).toNat)) + (M.1 s (12 * k + 93).toNat)) + (M.1 s (12 * k + 94).toNat)) + (M.1 s (12 * k + 95).toNat)) + (M.1 s (12 * k + 96).toNat)) + (M.1 s (12 * k + 97).toNat)) + (M.1 s (12 * k + 98).toNat)) + (M.1 s (12 * k + 99).toNat) = lr_bs (M.1 s) k := by unfold lr_bs; omega
                            rw [← e] at h
                            exact w_iret (fun q => by cases q) h
                          · exfalso; omega
theorem lr_bom {G : mj_G} {M : mj_M} {m s : Nat} (gm : G m = (1012, 0)) (gs : G s = (51100, 537)) (m6 : M.2.2 m 6 = some s) (hr : rv_r6 (M.1 s) 0) {k z : Int} {v2 : Option mj_V} {cb sb : Nat} (k1 : 0 ≤ k) (k2 : k < M.1 s 0) : wz 39 mt_X12_bidsOf.2.2.2.2.1 (fun r _ _ => r = some (.inl (lr_bidsOf (M.1 s) k))) (mt_X12_bidsOf.2.2.2.2.1.drop 9) [some (.inr (.inr (some m))), some (.inl k), v2, none] [] G (mj_p0 M m 0 z) cb sb := by
  have b0 := hr.1.1
  have es : (mj_p0 M m 0 z).1 s = M.1 s := wz_c (hn_ne gs gm (by decide))
  refine r_bo2 (M := mj_p0 M m 0 z) (d := 38) gm gs m6 (by rw [es]; exact hr) k1 (by omega) ?_
  show some (Sum.inl _) = some (Sum.inl _)
  rw [es]; unfold lr_bidsOf; rw [if_pos ⟨k1, k2⟩]
set_option maxRecDepth 100000 in
set_option maxHeartbeats 2000000 in
theorem lr_X12_bidsOf {G : mj_G} {M : mj_M} {x m tp s kp bc bt kc kr : Nat} {w : Nat → Nat} {z1 : Int} (hI : lp_I G M x m tp s kp bc bt kc kr w) (hz1 : mj_in z1) : mj_R mj_tab 40 168 [.inr (.inr (some m)), .inl z1] G M (fun r _ _ => r = some (.inl (lr_bidsOf (M.1 s) z1))) := by
  have gm := hI.gm
  have gs := hI.gs
  have m6 := hI.m6
  have b0 := hI.b0
  have bz1 : (-2147483648 : Int) ≤ z1 ∧ z1 < 2147483648 := hz1
  refine ⟨Nat.le_of_ble_eq_true rfl, ?_⟩
  show wz 39 mt_X12_bidsOf.2.2.2.2.1 _ mt_X12_bidsOf.2.2.2.2.1 [some (.inr (.inr (some m))), some (.inl z1), none, none] [] G M _ _
  refine w_aln rfl ?_
  refine w_ic ?_
  refine w_pi gm rfl (by decide) rfl (fun q => by cases q) ?_
  refine w_aln rfl ?_
  refine w_iln rfl ?_
  refine w_cv (st := []) rfl gm rfl (Nat.le_of_ble_eq_true rfl) (fun kk h => h) ⟨Nat.le_of_ble_eq_true rfl, ?_⟩
  show wz (38) mt_X12_isTown.2.2.2.2.1 _ mt_X12_isTown.2.2.2.2.1 [some (.inr (.inr (some m))), some (.inl z1)] [] _ _ _ _
  refine w_iln rfl ?_
  refine w_ic ?_
  refine w_aln rfl ?_
  refine w_gr gm rfl (by decide) rfl (m6) ?_
  refine w_ic ?_
  refine w_iald (v := (M.1 s 0)) gs rfl (by show (0 : Int) ≤ 0; omega) (by show 0 < ((537 : Nat) : Int); omega) ((hn_n (Or.inl (hn_ne gs gm (by decide)))).trans (congrArg (M.1 s) (by show (0 : Int).toNat = 0; omega))) ?_
  refine w_ic ?_
  refine w_sub ⟨by show (-2147483648 : Int) ≤ (M.1 s 0) - 1; omega, by show (M.1 s 0) - 1 < (2147483648 : Int); omega⟩ ?_
  refine w_cs (st := []) rfl (Nat.le_of_ble_eq_true rfl) (fun kk h => h) ⟨Nat.le_of_ble_eq_true rfl, ?_⟩
  show wz (37) mt_X12_isIn.2.2.2.2.1 _ mt_X12_isIn.2.2.2.2.1 [some (.inl z1), some (.inl 0), some (.inl ((M.1 s 0) - 1))] [] _ _ _ _
  refine w_iln rfl ?_
  refine w_iln rfl ?_
  refine w_cmlt (fun c1 => ?_) (fun c1 => ?_)
  · skip
    refine w_ic ?_
    refine w_iret (fun _ => Or.inl rfl) ?_
    refine w_iret (fun _ => Or.inl rfl) ?_
    refine w_ifne (fun c2 => ?_) (fun c2 => ?_)
    · exfalso; omega
    · skip
      refine w_ic ?_
      exact w_iret (fun q => by cases q) (by show some (Sum.inl _) = some (Sum.inl _); unfold lr_bidsOf; split <;> first | rfl | (exfalso; omega))
  · skip
    refine w_iln rfl ?_
    refine w_iln rfl ?_
    refine w_cmgt (fun c3 => ?_) (fun c3 => ?_)
    · skip
      refine w_ic ?_
      refine w_iret (fun _ => Or.inl rfl) ?_
      refine w_iret (fun _ => Or.inl rfl) ?_
      refine w_ifne (fun c4 => ?_) (fun c4 => ?_)
      · exfalso; omega
      · skip
        refine w_ic ?_
        exact w_iret (fun q => by cases q) (by show some (Sum.inl _) = some (Sum.inl _); unfold lr_bidsOf; split <;> first | rfl | (exfalso; omega))
    · skip
      refine w_ic ?_
      refine w_goto ?_
      refine w_iret (fun _ => Or.inr rfl) ?_
      refine w_iret (fun _ => Or.inr rfl) ?_
      refine w_ifne (fun c5 => ?_) (fun c5 => ?_)
      · skip
        exact lr_bom gm gs m6 hI.2.2.2.2.1.1 (by omega) (by omega)
      · exfalso; omega
def lr_gr (H : Nat → Int) (v : Int) : Nat → Int → Int → Int
  | 0, _, b => b
  | n + 1, a, b => lr_gr H v n (a + 1) (if 0 < H (12 * a + v + 88).toNat ∧ (b < 0 ∨ H (12 * b + v + 88).toNat < H (12 * a + v + 88).toNat) then a else b)
def lr_greatest (H : Nat → Int) (z1 : Int) : Int := if 0 ≤ z1 ∧ z1 ≤ 11 then lr_gr H z1 (H 0).toNat 0 (-1) else -1
theorem r_gr1 {G : mj_G} {M : mj_M} {x s p q : Nat} {w : Nat → Nat} {Q : mj_P} {d : Nat} (gx : G x = (1011, 0)) (hA : lq_A G w) (hB : lq_B M w x) (hN : lq_N M w p q) (hG5 : rv_G6 (M.1 s) 0 w p M) (hr : rv_r6 (M.1 s) 0) {v : Int} (v1 : 0 ≤ v) (v2 : v < 12) : ∀ (n : Nat) (a b mo : Int) (cb sb : Nat), a + n = M.1 s 0 → 0 ≤ a → -1 ≤ b → b < 8 → (b < 0 → mo = 0) ∧ (0 ≤ b → mo = M.1 s (12 * b + v + 88).toNat) → Q (some (.inl (lr_gr (M.1 s) v n a b))) G M → wz d mt_X11_greatest.2.2.2.2.1 Q (mt_X11_greatest.2.2.2.2.1.drop 11) [some (.inr (.inr (some x))), some (.inl v), some (.inl b), some (.inl mo), some (.inl a)] [] G M cb sb := by
  obtain ⟨gpl, gna, gta, gba, gwa, gtr, gbr, itr, ibr, p0, p1, p2, p3, rt, rb⟩ := lq_K hA hB hN.pin.1
  have gnw := hA.2.2.1
  have hG := hG5.1
  have b0 := hr.1.1
  intro n
  induction n with
  | zero =>
    intro a b mo cb sb e h0 h1 h2 hm h
    refine w_il rfl ?_
    refine w_aln rfl ?_
    refine w_gr gx rfl (by decide) rfl (hB.2.1) ?_
    refine w_gr gnw rfl (by decide) rfl (hN.1) ?_
    refine w_gi gpl rfl (by decide) rfl (hG.1.symm) ?_
    refine w_cmge (fun c1 => ?_) (fun c1 => ?_)
    · skip
      refine w_iln rfl ?_
      exact w_iret (fun q => by cases q) h
    · exfalso; omega
  | succ n ih =>
    intro a b mo cb sb e h0 h1 h2 hm h
    have ra := hr.b (j := (12 * a + v + 88).toNat) (by omega) (by omega)
    have rbb : 0 ≤ b → 0 ≤ M.1 s (12 * b + v + 88).toNat := fun q => (hr.b (by omega) (by omega)).1
    refine w_il rfl ?_
    refine w_aln rfl ?_
    refine w_gr gx rfl (by decide) rfl (hB.2.1) ?_
    refine w_gr gnw rfl (by decide) rfl (hN.1) ?_
    refine w_gi gpl rfl (by decide) rfl (hG.1.symm) ?_
    refine w_cmge (fun c1 => ?_) (fun c1 => ?_)
    · exfalso; omega
    · skip
      refine w_aln rfl ?_
      refine w_gr gx rfl (by decide) rfl (hB.2.1) ?_
      refine w_gr gnw rfl (by decide) rfl (hN.1) ?_
      refine w_gr gpl rfl (by decide) rfl (p2) ?_
      refine w_il rfl ?_
      refine w_aald gba rfl (by show (0 : Int) ≤ a; omega) (by show a < ((8 : Nat) : Int); omega) (rb _ (by show a.toNat < 8; omega)) ?_
      refine w_iln rfl ?_
      refine w_iald (v := (M.1 s (12 * a + v + 88).toNat)) (gbr _ (by show a.toNat < 8; omega)) rfl (by show (0 : Int) ≤ v; omega) (by show v < ((12 : Nat) : Int); omega) (lq_rB hG5 (by show a.toNat < 8; omega) (by show v.toNat < 12; omega) (by show (12 * a + v + 88).toNat = 88 + 12 * a.toNat + v.toNat; omega)) ?_
      refine w_iln rfl ?_
      refine w_cmle (fun c2 => ?_) (fun c2 => ?_)
      · skip
        refine w_ii rfl ⟨by show (-2147483648 : Int) ≤ a + 1; omega, by show a + 1 < (2147483648 : Int); omega⟩ ?_
        show wz _ _ _ _ [some (.inr (.inr (some x))), some (.inl v), some (.inl b), some (.inl mo), some (.inl (a + 1))] _ _ _ _ _
        refine w_goto ?_
        have e9 : lr_gr (M.1 s) v (n + 1) a b = lr_gr (M.1 s) v n (a + 1) b := by
          show lr_gr (M.1 s) v n (a + 1) (if _ then _ else _) = _
          rw [if_neg (by omega)]
        rw [e9] at h
        exact ih (a + 1) b mo _ _ (by omega) (by omega) (by omega) (by omega) hm h
      · skip
        refine w_aln rfl ?_
        refine w_gr gx rfl (by decide) rfl (hB.2.1) ?_
        refine w_gr gnw rfl (by decide) rfl (hN.1) ?_
        refine w_gr gpl rfl (by decide) rfl (p2) ?_
        refine w_il rfl ?_
        refine w_aald gba rfl (by show (0 : Int) ≤ a; omega) (by show a < ((8 : Nat) : Int); omega) (rb _ (by show a.toNat < 8; omega)) ?_
        refine w_iln rfl ?_
        refine w_iald (v := (M.1 s (12 * a + v + 88).toNat)) (gbr _ (by show a.toNat < 8; omega)) rfl (by show (0 : Int) ≤ v; omega) (by show v < ((12 : Nat) : Int); omega) (lq_rB hG5 (by show a.toNat < 8; omega) (by show v.toNat < 12; omega) (by show (12 * a + v + 88).toNat = 88 + 12 * a.toNat + v.toNat; omega)) ?_
        refine w_isn ?_
        show wz _ _ _ _ [some (.inr (.inr (some x))), some (.inl v), some (.inl b), some (.inl (M.1 s (12 * a + v + 88).toNat)), some (.inl a)] _ _ _ _ _
        refine w_il rfl ?_
        refine w_isn ?_
        show wz _ _ _ _ [some (.inr (.inr (some x))), some (.inl v), some (.inl a), some (.inl (M.1 s (12 * a + v + 88).toNat)), some (.inl a)] _ _ _ _ _
        refine w_ii rfl ⟨by show (-2147483648 : Int) ≤ a + 1; omega, by show a + 1 < (2147483648 : Int); omega⟩ ?_
        show wz _ _ _ _ [some (.inr (.inr (some x))), some (.inl v), some (.inl a), some (.inl (M.1 s (12 * a + v + 88).toNat)), some (.inl (a + 1))] _ _ _ _ _
        refine w_goto ?_
        have e9 : lr_gr (M.1 s) v (n + 1) a b = lr_gr (M.1 s) v n (a + 1) a := by
          show lr_gr (M.1 s) v n (a + 1) (if _ then _ else _) = _
          rw [if_pos (by omega)]
        rw [e9] at h
        exact ih (a + 1) a (M.1 s (12 * a + v + 88).toNat) _ _ (by omega) (by omega) (by omega) (by omega) ⟨fun _ => by omega, fun _ => rfl⟩ h
set_option maxRecDepth 100000 in
set_option maxHeartbeats 2000000 in
theorem lr_X11_greatest {G : mj_G} {M : mj_M} {x m tp s kp bc bt kc kr : Nat} {w : Nat → Nat} {z1 : Int} (hI : lp_I G M x m tp s kp bc bt kc kr w) (hz1 : mj_in z1) : mj_R mj_tab 40 125 [.inr (.inr (some x)), .inl z1] G M (fun r _ _ => r = some (.inl (lr_greatest (M.1 s) z1))) := by
  obtain ⟨hA, hB, p, q, hN, hG6, -⟩ := hI.J
  have hG := hG6.1
  have hG5 := hG6
  obtain ⟨gpl, gna, gta, gba, gwa, gtr, gbr, itr, ibr, p0, p1, p2, p3, rt, rb⟩ := lq_K hA hB hN.pin.1
  have gx := hI.gx
  have gnw := hA.2.2.1
  have b0 := hI.b0
  have bz1 : (-2147483648 : Int) ≤ z1 ∧ z1 < 2147483648 := hz1
  refine ⟨Nat.le_of_ble_eq_true rfl, ?_⟩
  show wz 39 mt_X11_greatest.2.2.2.2.1 _ mt_X11_greatest.2.2.2.2.1 [some (.inr (.inr (some x))), some (.inl z1), none, none, none] [] G M _ _
  refine w_iln rfl ?_
  refine w_cs (st := []) rfl (Nat.le_of_ble_eq_true rfl) (fun kk h => h) ⟨Nat.le_of_ble_eq_true rfl, ?_⟩
  show wz (38) mt_X11_isMonth.2.2.2.2.1 _ mt_X11_isMonth.2.2.2.2.1 [some (.inl z1)] [] _ _ _ _
  refine w_iln rfl ?_
  refine w_iflt (fun c1 => ?_) (fun c1 => ?_)
  · skip
    refine w_ic ?_
    refine w_iret (fun _ => Or.inl rfl) ?_
    refine w_ifne (fun c2 => ?_) (fun c2 => ?_)
    · exfalso; omega
    · skip
      refine w_ic ?_
      exact w_iret (fun q => by cases q) (by show some (Sum.inl _) = some (Sum.inl _); unfold lr_greatest; split <;> first | rfl | (exfalso; omega))
  · skip
    refine w_iln rfl ?_
    refine w_bp ?_
    refine w_cmge (fun c3 => ?_) (fun c3 => ?_)
    · skip
      refine w_ic ?_
      refine w_iret (fun _ => Or.inl rfl) ?_
      refine w_ifne (fun c4 => ?_) (fun c4 => ?_)
      · exfalso; omega
      · skip
        refine w_ic ?_
        exact w_iret (fun q => by cases q) (by show some (Sum.inl _) = some (Sum.inl _); unfold lr_greatest; split <;> first | rfl | (exfalso; omega))
    · skip
      refine w_ic ?_
      refine w_goto ?_
      refine w_iret (fun _ => Or.inr rfl) ?_
      refine w_ifne (fun c5 => ?_) (fun c5 => ?_)
      · skip
        refine w_ic ?_
        refine w_isn ?_
        show wz _ _ _ _ [some (.inr (.inr (some x))), some (.inl z1), some (.inl (-1)), none, none] _ _ _ _ _
        refine w_ic ?_
        refine w_isn ?_
        show wz _ _ _ _ [some (.inr (.inr (some x))), some (.inl z1), some (.inl (-1)), some (.inl 0), none] _ _ _ _ _
        refine w_ic ?_
        refine w_is ?_
        show wz _ _ _ _ [some (.inr (.inr (some x))), some (.inl z1), some (.inl (-1)), some (.inl 0), some (.inl 0)] _ _ _ _ _
        exact r_gr1 (d := 39) gx hA hB hN hG5 hI.2.2.2.2.1.1 (by omega) (by omega) (M.1 s 0).toNat 0 (-1) 0 _ _ (by omega) (by decide) (by decide) (by decide) ⟨fun _ => rfl, fun q => by omega⟩ (by show some (Sum.inl _) = some (Sum.inl _); unfold lr_greatest; rw [if_pos (by omega)])
      · exfalso; omega
theorem r_gr2 {G : mj_G} {M : mj_M} {m s : Nat} {Q : mj_P} {d : Nat} (gm : G m = (1012, 0)) (gs : G s = (51100, 537)) (m6 : M.2.2 m 6 = some s) (hr : rv_r6 (M.1 s) 0) {v : Int} (v1 : 0 ≤ v) (v2 : v < 12) : ∀ (n : Nat) (a b : Int) (cb sb : Nat), a + n = M.1 s 0 → 0 ≤ a → -1 ≤ b → b < 8 → Q (some (.inl (lr_gr (M.1 s) v n a b))) G M → wz (d + 1) mt_X12_greatest.2.2.2.2.1 Q (mt_X12_greatest.2.2.2.2.1.drop 12) [some (.inr (.inr (some m))), some (.inl v), some (.inl b), some (.inl a)] [] G M cb sb := by
  have b0 := hr.1.1
  intro n
  induction n with
  | zero =>
    intro a b cb sb e h0 h1 h2 h
    refine w_iln rfl ?_
    refine w_aln rfl ?_
    refine w_gr gm rfl (by decide) rfl (m6) ?_
    refine w_ic ?_
    refine w_iald (v := (M.1 s 0)) gs rfl (by show (0 : Int) ≤ 0; omega) (by show 0 < ((537 : Nat) : Int); omega) (congrArg (M.1 s) (by show (0 : Int).toNat = 0; omega)) ?_
    refine w_cmge (fun c1 => ?_) (fun c1 => ?_)
    · skip
      refine w_iln rfl ?_
      exact w_iret (fun q => by cases q) h
    · exfalso; omega
  | succ n ih =>
    intro a b cb sb e h0 h1 h2 h
    have ra := hr.b (j := (12 * a + v + 88).toNat) (by omega) (by omega)
    refine w_iln rfl ?_
    refine w_aln rfl ?_
    refine w_gr gm rfl (by decide) rfl (m6) ?_
    refine w_ic ?_
    refine w_iald (v := (M.1 s 0)) gs rfl (by show (0 : Int) ≤ 0; omega) (by show 0 < ((537 : Nat) : Int); omega) (congrArg (M.1 s) (by show (0 : Int).toNat = 0; omega)) ?_
    refine w_cmge (fun c1 => ?_) (fun c1 => ?_)
    · exfalso; omega
    · skip
      refine w_aln rfl ?_
      refine w_iln rfl ?_
      refine w_iln rfl ?_
      refine w_cv (st := []) rfl gm rfl (Nat.le_of_ble_eq_true rfl) (fun kk h => h) ⟨Nat.le_of_ble_eq_true rfl, ?_⟩
      show wz (d) mt_X12_bidOf.2.2.2.2.1 _ mt_X12_bidOf.2.2.2.2.1 [some (.inr (.inr (some m))), some (.inl a), some (.inl v)] [] _ _ _ _
      refine w_aln rfl ?_
      refine w_gr gm rfl (by decide) rfl (m6) ?_
      refine w_bp ?_
      refine w_bp ?_
      refine w_iln rfl ?_
      refine w_mul ⟨by show (-2147483648 : Int) ≤ 12 * a; omega, by show 12 * a < (2147483648 : Int); omega⟩ ?_
      refine w_add ⟨by show (-2147483648 : Int) ≤ 88 + (12 * a); omega, by show 88 + (12 * a) < (2147483648 : Int); omega⟩ ?_
      refine w_iln rfl ?_
      refine w_add ⟨by show (-2147483648 : Int) ≤ (88 + (12 * a)) + v; omega, by show (88 + (12 * a)) + v < (2147483648 : Int); omega⟩ ?_
      refine w_iald (v := (M.1 s (12 * a + v + 88).toNat)) gs rfl (by show (0 : Int) ≤ (88 + (12 * a)) + v; omega) (by show (88 + (12 * a)) + v < ((537 : Nat) : Int); omega) (congrArg (M.1 s) (by show ((88 + (12 * a)) + v).toNat = (12 * a + v + 88).toNat; omega)) ?_
      refine w_iret (fun q => by cases q) ?_
      refine w_ifle (fun c2 => ?_) (fun c2 => ?_)
      · skip
        refine w_ii rfl ⟨by show (-2147483648 : Int) ≤ a + 1; omega, by show a + 1 < (2147483648 : Int); omega⟩ ?_
        show wz _ _ _ _ [some (.inr (.inr (some m))), some (.inl v), some (.inl b), some (.inl (a + 1))] _ _ _ _ _
        refine w_goto ?_
        have e9 : lr_gr (M.1 s) v (n + 1) a b = lr_gr (M.1 s) v n (a + 1) b := by
          show lr_gr (M.1 s) v n (a + 1) (if _ then _ else _) = _
          rw [if_neg (by omega)]
        rw [e9] at h
        exact ih (a + 1) b _ _ (by omega) (by omega) (by omega) (by omega) h
      · skip
        refine w_iln rfl ?_
        refine w_iflt (fun c3 => ?_) (fun c3 => ?_)
        · skip
          refine w_iln rfl ?_
          refine w_isn ?_
          show wz _ _ _ _ [some (.inr (.inr (some m))), some (.inl v), some (.inl a), some (.inl a)] _ _ _ _ _
          refine w_ii rfl ⟨by show (-2147483648 : Int) ≤ a + 1; omega, by show a + 1 < (2147483648 : Int); omega⟩ ?_
          show wz _ _ _ _ [some (.inr (.inr (some m))), some (.inl v), some (.inl a), some (.inl (a + 1))] _ _ _ _ _
          refine w_goto ?_
          have e9 : lr_gr (M.1 s) v (n + 1) a b = lr_gr (M.1 s) v n (a + 1) a := by
            show lr_gr (M.1 s) v n (a + 1) (if _ then _ else _) = _
            rw [if_pos (by omega)]
          rw [e9] at h
          exact ih (a + 1) a _ _ (by omega) (by omega) (by omega) (by omega) h
        · skip
          refine w_aln rfl ?_
          refine w_iln rfl ?_
          refine w_iln rfl ?_
          refine w_cv (st := []) rfl gm rfl (Nat.le_of_ble_eq_true rfl) (fun kk h => h) ⟨Nat.le_of_ble_eq_true rfl, ?_⟩
          show wz (d) mt_X12_bidOf.2.2.2.2.1 _ mt_X12_bidOf.2.2.2.2.1 [some (.inr (.inr (some m))), some (.inl a), some (.inl v)] [] _ _ _ _
          refine w_aln rfl ?_
          refine w_gr gm rfl (by decide) rfl (m6) ?_
          refine w_bp ?_
          refine w_bp ?_
          refine w_iln rfl ?_
          refine w_mul ⟨by show (-2147483648 : Int) ≤ 12 * a; omega, by show 12 * a < (2147483648 : Int); omega⟩ ?_
          refine w_add ⟨by show (-2147483648 : Int) ≤ 88 + (12 * a); omega, by show 88 + (12 * a) < (2147483648 : Int); omega⟩ ?_
          refine w_iln rfl ?_
          refine w_add ⟨by show (-2147483648 : Int) ≤ (88 + (12 * a)) + v; omega, by show (88 + (12 * a)) + v < (2147483648 : Int); omega⟩ ?_
          refine w_iald (v := (M.1 s (12 * a + v + 88).toNat)) gs rfl (by show (0 : Int) ≤ (88 + (12 * a)) + v; omega) (by show (88 + (12 * a)) + v < ((537 : Nat) : Int); omega) (congrArg (M.1 s) (by show ((88 + (12 * a)) + v).toNat = (12 * a + v + 88).toNat; omega)) ?_
          refine w_iret (fun q => by cases q) ?_
          refine w_aln rfl ?_
          refine w_iln rfl ?_
          refine w_iln rfl ?_
          refine w_cv (st := [.inl (M.1 s (12 * a + v + 88).toNat)]) rfl gm rfl (Nat.le_of_ble_eq_true rfl) (fun kk h => h) ⟨Nat.le_of_ble_eq_true rfl, ?_⟩
          show wz (d) mt_X12_bidOf.2.2.2.2.1 _ mt_X12_bidOf.2.2.2.2.1 [some (.inr (.inr (some m))), some (.inl b), some (.inl v)] [] _ _ _ _
          refine w_aln rfl ?_
          refine w_gr gm rfl (by decide) rfl (m6) ?_
          refine w_bp ?_
          refine w_bp ?_
          refine w_iln rfl ?_
          refine w_mul ⟨by show (-2147483648 : Int) ≤ 12 * b; omega, by show 12 * b < (2147483648 : Int); omega⟩ ?_
          refine w_add ⟨by show (-2147483648 : Int) ≤ 88 + (12 * b); omega, by show 88 + (12 * b) < (2147483648 : Int); omega⟩ ?_
          refine w_iln rfl ?_
          refine w_add ⟨by show (-2147483648 : Int) ≤ (88 + (12 * b)) + v; omega, by show (88 + (12 * b)) + v < (2147483648 : Int); omega⟩ ?_
          refine w_iald (v := (M.1 s (12 * b + v + 88).toNat)) gs rfl (by show (0 : Int) ≤ (88 + (12 * b)) + v; omega) (by show (88 + (12 * b)) + v < ((537 : Nat) : Int); omega) (congrArg (M.1 s) (by show ((88 + (12 * b)) + v).toNat = (12 * b + v + 88).toNat; omega)) ?_
          refine w_iret (fun q => by cases q) ?_
          refine w_cmle (fun c4 => ?_) (fun c4 => ?_)
          · skip
            refine w_ii rfl ⟨by show (-2147483648 : Int) ≤ a + 1; omega, by show a + 1 < (2147483648 : Int); omega⟩ ?_
            show wz _ _ _ _ [some (.inr (.inr (some m))), some (.inl v), some (.inl b), some (.inl (a + 1))] _ _ _ _ _
            refine w_goto ?_
            have e9 : lr_gr (M.1 s) v (n + 1) a b = lr_gr (M.1 s) v n (a + 1) b := by
              show lr_gr (M.1 s) v n (a + 1) (if _ then _ else _) = _
              rw [if_neg (by omega)]
            rw [e9] at h
            exact ih (a + 1) b _ _ (by omega) (by omega) (by omega) (by omega) h
          · skip
            refine w_iln rfl ?_
            refine w_isn ?_
            show wz _ _ _ _ [some (.inr (.inr (some m))), some (.inl v), some (.inl a), some (.inl a)] _ _ _ _ _
            refine w_ii rfl ⟨by show (-2147483648 : Int) ≤ a + 1; omega, by show a + 1 < (2147483648 : Int); omega⟩ ?_
            show wz _ _ _ _ [some (.inr (.inr (some m))), some (.inl v), some (.inl a), some (.inl (a + 1))] _ _ _ _ _
            refine w_goto ?_
            have e9 : lr_gr (M.1 s) v (n + 1) a b = lr_gr (M.1 s) v n (a + 1) a := by
              show lr_gr (M.1 s) v n (a + 1) (if _ then _ else _) = _
              rw [if_pos (by omega)]
            rw [e9] at h
            exact ih (a + 1) a _ _ (by omega) (by omega) (by omega) (by omega) h
theorem lr_grm {G : mj_G} {M : mj_M} {m s : Nat} (gm : G m = (1012, 0)) (gs : G s = (51100, 537)) (m6 : M.2.2 m 6 = some s) (hr : rv_r6 (M.1 s) 0) {v z : Int} {cb sb : Nat} (v1 : 0 ≤ v) (v2 : v ≤ 11) : wz 39 mt_X12_greatest.2.2.2.2.1 (fun r _ _ => r = some (.inl (lr_greatest (M.1 s) v))) (mt_X12_greatest.2.2.2.2.1.drop 12) [some (.inr (.inr (some m))), some (.inl v), some (.inl (-1)), some (.inl 0)] [] G (mj_p0 M m 0 z) cb sb := by
  have b0 := hr.1.1
  have es : (mj_p0 M m 0 z).1 s = M.1 s := wz_c (hn_ne gs gm (by decide))
  refine r_gr2 (M := mj_p0 M m 0 z) (d := 38) gm gs m6 (by rw [es]; exact hr) v1 (by omega) (M.1 s 0).toNat 0 (-1) _ _ (by rw [es]; omega) (by decide) (by decide) (by decide) ?_
  show some (Sum.inl _) = some (Sum.inl _)
  rw [es]; unfold lr_greatest; rw [if_pos ⟨v1, v2⟩]
set_option maxRecDepth 100000 in
set_option maxHeartbeats 2000000 in
theorem lr_X12_greatest {G : mj_G} {M : mj_M} {x m tp s kp bc bt kc kr : Nat} {w : Nat → Nat} {z1 : Int} (hI : lp_I G M x m tp s kp bc bt kc kr w) (hz1 : mj_in z1) : mj_R mj_tab 40 192 [.inr (.inr (some m)), .inl z1] G M (fun r _ _ => r = some (.inl (lr_greatest (M.1 s) z1))) := by
  have gm := hI.gm
  have gs := hI.gs
  have m6 := hI.m6
  have b0 := hI.b0
  have bz1 : (-2147483648 : Int) ≤ z1 ∧ z1 < 2147483648 := hz1
  refine ⟨Nat.le_of_ble_eq_true rfl, ?_⟩
  show wz 39 mt_X12_greatest.2.2.2.2.1 _ mt_X12_greatest.2.2.2.2.1 [some (.inr (.inr (some m))), some (.inl z1), none, none] [] G M _ _
  refine w_aln rfl ?_
  refine w_ic ?_
  refine w_pi gm rfl (by decide) rfl (fun q => by cases q) ?_
  refine w_iln rfl ?_
  refine w_cs (st := []) rfl (Nat.le_of_ble_eq_true rfl) (fun kk h => h) ⟨Nat.le_of_ble_eq_true rfl, ?_⟩
  show wz (38) mt_X12_isMonth.2.2.2.2.1 _ mt_X12_isMonth.2.2.2.2.1 [some (.inl z1)] [] _ _ _ _
  refine w_iln rfl ?_
  refine w_ic ?_
  refine w_bp ?_
  refine w_cs (st := []) rfl (Nat.le_of_ble_eq_true rfl) (fun kk h => h) ⟨Nat.le_of_ble_eq_true rfl, ?_⟩
  show wz (37) mt_X12_isIn.2.2.2.2.1 _ mt_X12_isIn.2.2.2.2.1 [some (.inl z1), some (.inl 0), some (.inl 11)] [] _ _ _ _
  refine w_iln rfl ?_
  refine w_iln rfl ?_
  refine w_cmlt (fun c1 => ?_) (fun c1 => ?_)
  · skip
    refine w_ic ?_
    refine w_iret (fun _ => Or.inl rfl) ?_
    refine w_iret (fun _ => Or.inl rfl) ?_
    refine w_ifne (fun c2 => ?_) (fun c2 => ?_)
    · exfalso; omega
    · skip
      refine w_ic ?_
      exact w_iret (fun q => by cases q) (by show some (Sum.inl _) = some (Sum.inl _); unfold lr_greatest; split <;> first | rfl | (exfalso; omega))
  · skip
    refine w_iln rfl ?_
    refine w_iln rfl ?_
    refine w_cmgt (fun c3 => ?_) (fun c3 => ?_)
    · skip
      refine w_ic ?_
      refine w_iret (fun _ => Or.inl rfl) ?_
      refine w_iret (fun _ => Or.inl rfl) ?_
      refine w_ifne (fun c4 => ?_) (fun c4 => ?_)
      · exfalso; omega
      · skip
        refine w_ic ?_
        exact w_iret (fun q => by cases q) (by show some (Sum.inl _) = some (Sum.inl _); unfold lr_greatest; split <;> first | rfl | (exfalso; omega))
    · skip
      refine w_ic ?_
      refine w_goto ?_
      refine w_iret (fun _ => Or.inr rfl) ?_
      refine w_iret (fun _ => Or.inr rfl) ?_
      refine w_ifne (fun c5 => ?_) (fun c5 => ?_)
      · skip
        refine w_ic ?_
        refine w_isn ?_
        show wz _ _ _ _ [some (.inr (.inr (some m))), some (.inl z1), some (.inl (-1)), none] _ _ _ _ _
        refine w_ic ?_
        refine w_isn ?_
        show wz _ _ _ _ [some (.inr (.inr (some m))), some (.inl z1), some (.inl (-1)), some (.inl 0)] _ _ _ _ _
        exact lr_grm gm gs m6 hI.2.2.2.2.1.1 (by omega) (by omega)
      · exfalso; omega
