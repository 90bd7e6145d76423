/-! ===== water, as the PLAIN now asks for it (laid by a program) ===== -/
theorem lq_rW {H : Nat → Int} {w : Nat → Nat} {p v j : Nat} {M : mj_M} (h : rv_G4 H 0 w p M) (hv : v < 12) (e : j = 76 + v) : M.1 (w (p + 20)) v = H j := by
  subst e; rw [← h.2.2.2.2.2 v hv, Nat.zero_add]
theorem lq_rT {H : Nat → Int} {w : Nat → Nat} {p t v j : Nat} {M : mj_M} (h : rv_G4 H 0 w p M) (ht : t < 8) (hv : v < 9) (e : j = 4 + 9 * t + v) : M.1 (w (p + 3 + t)) v = H j := by
  subst e; rw [← h.2.2.2.2.1 t v ht hv, Nat.zero_add]
def lr_water (H : Nat → Int) (z1 : Int) : Int := if 0 ≤ z1 ∧ z1 ≤ 11 then H (z1 + 76).toNat else -1
set_option maxRecDepth 100000 in
set_option maxHeartbeats 2000000 in
theorem lr_X11_water {G : mj_G} {M : mj_M} {x m tp s kp bc bt kc kr : Nat} {w : Nat → Nat} {z1 : Int} (hI : lp_I G M x m tp s kp bc bt kc kr w) (hz1 : mj_in z1) : mj_R mj_tab 40 155 [.inr (.inr (some x)), .inl z1] G M (fun r _ _ => r = some (.inl (lr_water (M.1 s) z1))) := by
  obtain ⟨hA, hB, p, q, hN, hG6, -⟩ := hI.J
  have hG := hG6.1
  have hG5 := hG6
  obtain ⟨gpl, gna, gta, gba, gwa, gtr, gbr, itr, ibr, p0, p1, p2, p3, rt, rb⟩ := lq_K hA hB hN.pin.1
  have gx := hI.gx
  have gnw := hA.2.2.1
  have b0 := hI.b0
  have bz1 : (-2147483648 : Int) ≤ z1 ∧ z1 < 2147483648 := hz1
  refine ⟨Nat.le_of_ble_eq_true rfl, ?_⟩
  show wz 39 mt_X11_water.2.2.2.2.1 _ mt_X11_water.2.2.2.2.1 [some (.inr (.inr (some x))), some (.inl z1)] [] G M _ _
  refine w_iln rfl ?_
  refine w_cs (st := []) rfl (Nat.le_of_ble_eq_true rfl) (fun kk h => h) ⟨Nat.le_of_ble_eq_true rfl, ?_⟩
  show wz (38) mt_X11_isMonth.2.2.2.2.1 _ mt_X11_isMonth.2.2.2.2.1 [some (.inl z1)] [] _ _ _ _
  refine w_iln rfl ?_
  refine w_iflt (fun c1 => ?_) (fun c1 => ?_)
  · skip
    refine w_ic ?_
    refine w_iret (fun _ => Or.inl rfl) ?_
    refine w_ifeq (fun c2 => ?_) (fun c2 => ?_)
    · skip
      refine w_ic ?_
      exact w_iret (fun q => by cases q) (by show some (Sum.inl _) = some (Sum.inl _); unfold lr_water; split <;> first | rfl | (exfalso; omega))
    · exfalso; omega
  · skip
    refine w_iln rfl ?_
    refine w_bp ?_
    refine w_cmge (fun c3 => ?_) (fun c3 => ?_)
    · skip
      refine w_ic ?_
      refine w_iret (fun _ => Or.inl rfl) ?_
      refine w_ifeq (fun c4 => ?_) (fun c4 => ?_)
      · skip
        refine w_ic ?_
        exact w_iret (fun q => by cases q) (by show some (Sum.inl _) = some (Sum.inl _); unfold lr_water; split <;> first | rfl | (exfalso; omega))
      · exfalso; omega
    · skip
      refine w_ic ?_
      refine w_goto ?_
      refine w_iret (fun _ => Or.inr rfl) ?_
      refine w_ifeq (fun c5 => ?_) (fun c5 => ?_)
      · exfalso; omega
      · skip
        refine w_aln rfl ?_
        refine w_gr gx rfl (by decide) rfl (hB.2.1) ?_
        refine w_gr gnw rfl (by decide) rfl (hN.1) ?_
        refine w_gr gpl rfl (by decide) rfl (p3) ?_
        refine w_iln rfl ?_
        refine w_iald (v := (M.1 s (z1 + 76).toNat)) gwa rfl (by show (0 : Int) ≤ z1; omega) (by show z1 < ((12 : Nat) : Int); omega) (lq_rW hG (by show z1.toNat < 12; omega) (by show (z1 + 76).toNat = 76 + z1.toNat; omega)) ?_
        refine w_goto ?_
        exact w_iret (fun q => by cases q) (by show some (Sum.inl _) = some (Sum.inl _); unfold lr_water; split <;> first | rfl | (exfalso; omega))
set_option maxRecDepth 100000 in
set_option maxHeartbeats 2000000 in
theorem lr_X12_water {G : mj_G} {M : mj_M} {x m tp s kp bc bt kc kr : Nat} {w : Nat → Nat} {z1 : Int} (hI : lp_I G M x m tp s kp bc bt kc kr w) (hz1 : mj_in z1) : mj_R mj_tab 40 256 [.inr (.inr (some m)), .inl z1] G M (fun r _ _ => r = some (.inl (lr_water (M.1 s) z1))) := by
  have gm := hI.gm
  have gs := hI.gs
  have m6 := hI.m6
  have b0 := hI.b0
  have bz1 : (-2147483648 : Int) ≤ z1 ∧ z1 < 2147483648 := hz1
  refine ⟨Nat.le_of_ble_eq_true rfl, ?_⟩
  show wz 39 mt_X12_water.2.2.2.2.1 _ mt_X12_water.2.2.2.2.1 [some (.inr (.inr (some m))), some (.inl z1)] [] G M _ _
  refine w_aln rfl ?_
  refine w_ic ?_
  refine w_pi gm rfl (by decide) rfl (fun q => by cases q) ?_
  refine w_iln rfl ?_
  refine w_cs (st := []) rfl (Nat.le_of_ble_eq_true rfl) (fun kk h => h) ⟨Nat.le_of_ble_eq_true rfl, ?_⟩
  show wz (38) mt_X12_isMonth.2.2.2.2.1 _ mt_X12_isMonth.2.2.2.2.1 [some (.inl z1)] [] _ _ _ _
  refine w_iln rfl ?_
  refine w_ic ?_
  refine w_bp ?_
  refine w_cs (st := []) rfl (Nat.le_of_ble_eq_true rfl) (fun kk h => h) ⟨Nat.le_of_ble_eq_true rfl, ?_⟩
  show wz (37) mt_X12_isIn.2.2.2.2.1 _ mt_X12_isIn.2.2.2.2.1 [some (.inl z1), some (.inl 0), some (.inl 11)] [] _ _ _ _
  refine w_iln rfl ?_
  refine w_iln rfl ?_
  refine w_cmlt (fun c1 => ?_) (fun c1 => ?_)
  · skip
    refine w_ic ?_
    refine w_iret (fun _ => Or.inl rfl) ?_
    refine w_iret (fun _ => Or.inl rfl) ?_
    refine w_ifeq (fun c2 => ?_) (fun c2 => ?_)
    · skip
      refine w_ic ?_
      exact w_iret (fun q => by cases q) (by show some (Sum.inl _) = some (Sum.inl _); unfold lr_water; split <;> first | rfl | (exfalso; omega))
    · exfalso; omega
  · skip
    refine w_iln rfl ?_
    refine w_iln rfl ?_
    refine w_cmgt (fun c3 => ?_) (fun c3 => ?_)
    · skip
      refine w_ic ?_
      refine w_iret (fun _ => Or.inl rfl) ?_
      refine w_iret (fun _ => Or.inl rfl) ?_
      refine w_ifeq (fun c4 => ?_) (fun c4 => ?_)
      · skip
        refine w_ic ?_
        exact w_iret (fun q => by cases q) (by show some (Sum.inl _) = some (Sum.inl _); unfold lr_water; split <;> first | rfl | (exfalso; omega))
      · exfalso; omega
    · skip
      refine w_ic ?_
      refine w_goto ?_
      refine w_iret (fun _ => Or.inr rfl) ?_
      refine w_iret (fun _ => Or.inr rfl) ?_
      refine w_ifeq (fun c5 => ?_) (fun c5 => ?_)
      · exfalso; omega
      · skip
        refine w_aln rfl ?_
        refine w_gr gm rfl (by decide) rfl (m6) ?_
        refine w_bp ?_
        refine w_iln rfl ?_
        refine w_add ⟨by show (-2147483648 : Int) ≤ 76 + z1; omega, by show 76 + z1 < (2147483648 : Int); omega⟩ ?_
        refine w_iald (v := (M.1 s (z1 + 76).toNat)) gs rfl (by show (0 : Int) ≤ 76 + z1; omega) (by show 76 + z1 < ((537 : Nat) : Int); omega) ((hn_n (Or.inl (hn_ne gs gm (by decide)))).trans (congrArg (M.1 s) (by show (76 + z1).toNat = (z1 + 76).toNat; omega))) ?_
        refine w_goto ?_
        exact w_iret (fun q => by cases q) (by show some (Sum.inl _) = some (Sum.inl _); unfold lr_water; split <;> first | rfl | (exfalso; omega))
