/-! ===== contract, as CONTRACTS now tell (laid by a program) ===== -/
section SW
variable {d : Nat} {full : List mj_E} {Q : mj_P} {rest : List mj_E} {L : mj_L} {st : List mj_V} {G : mj_G} {M : mj_M} {cb sb pc : Nat} {im : Int}
theorem w_sw3 {df lo hi z : Int} {offs : _} {t0 t1 t2 t3 : Nat} (k0 : z < lo ∨ hi < z → wz d full Q (full.drop t0) L st G M cb sb) (k1 : z = lo → wz d full Q (full.drop t1) L st G M cb sb) (k2 : z = lo + 1 → wz d full Q (full.drop t2) L st G M cb sb) (k3 : z = lo + 1 + 1 → wz d full Q (full.drop t3) L st G M cb sb) : wz d full Q ((.tableswitch df lo hi offs, pc, [t0, t1, t2, t3], im) :: rest) L (.inl z :: st) G M cb sb := wz_st ⟨k0, k1, k2, k3, trivial⟩
end SW
theorem ab_s_d : ∀ j, j < 36 → j % 3 ≠ 2 → 0 ≤ (ab_rg 51100 (184 + j)).1 ∧ (ab_rg 51100 (184 + j)).2 ≤ 9 := by decide
theorem rd_e1 {M : mj_M} {H : Nat → Int} {w : Nat → Nat} {D j k : Nat} (h : rd_E M H 0 w D) (hj : j < 12) (e : k = 184 + 3 * j) : M.1 (w (D + 1)) j = H k - 1 := by
  have := (h.1 j hj).1
  rw [Nat.zero_add] at this; rw [e]; exact this
theorem rd_e2 {M : mj_M} {H : Nat → Int} {w : Nat → Nat} {D j k : Nat} (h : rd_E M H 0 w D) (hj : j < 12) (e : k = 185 + 3 * j) : M.1 (w (D + 2)) j = H k - 1 := by
  have := (h.1 j hj).2.1
  rw [Nat.zero_add] at this; rw [e]; exact this
theorem rd_e3 {M : mj_M} {H : Nat → Int} {w : Nat → Nat} {D j k : Nat} (h : rd_E M H 0 w D) (hj : j < 12) (e : k = 186 + 3 * j) : M.1 (w (D + 3)) j = H k := by
  have := (h.1 j hj).2.2
  rw [Nat.zero_add] at this; rw [e]; exact this
def lr_contract (H : Nat → Int) (z1 z2 : Int) : Int := if (0 ≤ z1 ∧ z1 ≤ 11) ∧ (0 ≤ z2 ∧ z2 ≤ 2) ∧ H (3 * z1 + 184).toNat ≠ 0 then (if z2 = 0 then H (3 * z1 + 184).toNat - 1 else if z2 = 1 then H (3 * z1 + 185).toNat - 1 else H (3 * z1 + 186).toNat) else -1
set_option maxRecDepth 100000 in
set_option maxHeartbeats 2000000 in
theorem lr_X11_contract {G : mj_G} {M : mj_M} {x m tp s kp bc bt kc kr : Nat} {w : Nat → Nat} {z1 z2 : Int} (hD : lq_D G M s kp kc w) (hI : lp_I G M x m tp s kp bc bt kc kr w) (hz1 : mj_in z1) (hz2 : mj_in z2) : mj_R mj_tab 40 116 [.inr (.inr (some x)), .inl z1, .inl z2] G M (fun r _ _ => r = some (.inl (lr_contract (M.1 s) z1 z2))) := by
  obtain ⟨hA, hB, p, q, hN, hG6, -⟩ := hI.J
  have hG := hG6.1
  have hG5 := hG6
  obtain ⟨gpl, gna, gta, gba, gwa, gtr, gbr, itr, ibr, p0, p1, p2, p3, rt, rb⟩ := lq_K hA hB hN.pin.1
  have gx := hI.gx
  have gnw := hA.2.2.1
  have b0 := hI.b0
  have bz1 : (-2147483648 : Int) ≤ z1 ∧ z1 < 2147483648 := hz1
  have bz2 : (-2147483648 : Int) ≤ z2 ∧ z2 < 2147483648 := hz2
  obtain ⟨hDA, hDB, ⟨dn, ds, hDN, hE⟩, -⟩ := hD
  have gD := hDA dn hDN.nin.1
  have rD := hDB.1 dn hDN.nin.1
  refine ⟨Nat.le_of_ble_eq_true rfl, ?_⟩
  show wz 39 mt_X11_contract.2.2.2.2.1 _ mt_X11_contract.2.2.2.2.1 [some (.inr (.inr (some x))), some (.inl z1), some (.inl z2)] [] G M _ _
  refine w_iln rfl ?_
  refine w_cs (st := []) rfl (Nat.le_of_ble_eq_true rfl) (fun kk h => h) ⟨Nat.le_of_ble_eq_true rfl, ?_⟩
  show wz (38) mt_X11_isMonth.2.2.2.2.1 _ mt_X11_isMonth.2.2.2.2.1 [some (.inl z1)] [] _ _ _ _
  refine w_iln rfl ?_
  refine w_iflt (fun c1 => ?_) (fun c1 => ?_)
  · skip
    refine w_ic ?_
    refine w_iret (fun _ => Or.inl rfl) ?_
    refine w_ifeq (fun c2 => ?_) (fun c2 => ?_)
    · skip
      refine w_ic ?_
      exact w_iret (fun q => by cases q) (by show some (Sum.inl _) = some (Sum.inl _); unfold lr_contract; split <;> (try split) <;> (try split) <;> first | rfl | (exfalso; omega) | (congr 1; omega) | (rw [show (3 * z1 + z2 + 184).toNat = (3 * z1 + 184).toNat by omega]) | (rw [show (3 * z1 + z2 + 184).toNat = (3 * z1 + 185).toNat by omega]))
    · exfalso; omega
  · skip
    refine w_iln rfl ?_
    refine w_bp ?_
    refine w_cmge (fun c3 => ?_) (fun c3 => ?_)
    · skip
      refine w_ic ?_
      refine w_iret (fun _ => Or.inl rfl) ?_
      refine w_ifeq (fun c4 => ?_) (fun c4 => ?_)
      · skip
        refine w_ic ?_
        exact w_iret (fun q => by cases q) (by show some (Sum.inl _) = some (Sum.inl _); unfold lr_contract; split <;> (try split) <;> (try split) <;> first | rfl | (exfalso; omega) | (congr 1; omega) | (rw [show (3 * z1 + z2 + 184).toNat = (3 * z1 + 184).toNat by omega]) | (rw [show (3 * z1 + z2 + 184).toNat = (3 * z1 + 185).toNat by omega]))
      · exfalso; omega
    · skip
      refine w_ic ?_
      refine w_goto ?_
      refine w_iret (fun _ => Or.inr rfl) ?_
      refine w_ifeq (fun c5 => ?_) (fun c5 => ?_)
      · exfalso; omega
      · skip
        refine w_aln rfl ?_
        refine w_gr gx rfl (by decide) rfl (hB.2.1) ?_
        refine w_gr gnw rfl (by decide) rfl (hDN.1) ?_
        refine w_iln rfl ?_
        refine w_cv (st := []) rfl gD.1 rfl (Nat.le_of_ble_eq_true rfl) (fun kk h => h) ⟨Nat.le_of_ble_eq_true rfl, ?_⟩
        show wz (38) mt_X1_tells.2.2.2.2.1 _ mt_X1_tells.2.2.2.2.1 [some (.inr (.inr (some (w dn)))), some (.inl z1)] [] _ _ _ _
        refine w_aln rfl ?_
        refine w_gr gD.1 rfl (by decide) rfl (rD.1) ?_
        refine w_iln rfl ?_
        refine w_iald (v := ((M.1 s (3 * z1 + 184).toNat) - 1)) gD.2.1 rfl (by show (0 : Int) ≤ z1; omega) (by show z1 < ((12 : Nat) : Int); omega) (rd_e1 hE (by show z1.toNat < 12; omega) (by show (3 * z1 + 184).toNat = 184 + 3 * z1.toNat; omega)) ?_
        refine w_ic ?_
        refine w_cmeq (fun c6 => ?_) (fun c6 => ?_)
        · skip
          refine w_ic ?_
          refine w_iret (fun _ => Or.inl rfl) ?_
          refine w_ifne (fun c7 => ?_) (fun c7 => ?_)
          · exfalso; omega
          · skip
            refine w_ic ?_
            exact w_iret (fun q => by cases q) (by show some (Sum.inl _) = some (Sum.inl _); unfold lr_contract; split <;> (try split) <;> (try split) <;> first | rfl | (exfalso; omega) | (congr 1; omega) | (rw [show (3 * z1 + z2 + 184).toNat = (3 * z1 + 184).toNat by omega]) | (rw [show (3 * z1 + z2 + 184).toNat = (3 * z1 + 185).toNat by omega]))
        · skip
          refine w_ic ?_
          refine w_goto ?_
          refine w_iret (fun _ => Or.inr rfl) ?_
          refine w_ifne (fun c8 => ?_) (fun c8 => ?_)
          · skip
            refine w_iln rfl ?_
            refine w_sw3 (fun c9 => ?_) (fun c10 => ?_) (fun c11 => ?_) (fun c12 => ?_)
            · skip
              refine w_ic ?_
              exact w_iret (fun q => by cases q) (by show some (Sum.inl _) = some (Sum.inl _); unfold lr_contract; split <;> (try split) <;> (try split) <;> first | rfl | (exfalso; omega) | (congr 1; omega) | (rw [show (3 * z1 + z2 + 184).toNat = (3 * z1 + 184).toNat by omega]) | (rw [show (3 * z1 + z2 + 184).toNat = (3 * z1 + 185).toNat by omega]))
            · skip
              refine w_aln rfl ?_
              refine w_gr gx rfl (by decide) rfl (hB.2.1) ?_
              refine w_gr gnw rfl (by decide) rfl (hDN.1) ?_
              refine w_gr gD.1 rfl (by decide) rfl (rD.1) ?_
              refine w_iln rfl ?_
              refine w_iald (v := ((M.1 s (3 * z1 + 184).toNat) - 1)) gD.2.1 rfl (by show (0 : Int) ≤ z1; omega) (by show z1 < ((12 : Nat) : Int); omega) (rd_e1 hE (by show z1.toNat < 12; omega) (by show (3 * z1 + 184).toNat = 184 + 3 * z1.toNat; omega)) ?_
              exact w_iret (fun q => by cases q) (by show some (Sum.inl _) = some (Sum.inl _); unfold lr_contract; split <;> (try split) <;> (try split) <;> first | rfl | (exfalso; omega) | (congr 1; omega) | (rw [show (3 * z1 + z2 + 184).toNat = (3 * z1 + 184).toNat by omega]) | (rw [show (3 * z1 + z2 + 184).toNat = (3 * z1 + 185).toNat by omega]))
            · skip
              refine w_aln rfl ?_
              refine w_gr gx rfl (by decide) rfl (hB.2.1) ?_
              refine w_gr gnw rfl (by decide) rfl (hDN.1) ?_
              refine w_gr gD.1 rfl (by decide) rfl (rD.2.1) ?_
              refine w_iln rfl ?_
              refine w_iald (v := ((M.1 s (3 * z1 + 185).toNat) - 1)) gD.2.2.1 rfl (by show (0 : Int) ≤ z1; omega) (by show z1 < ((12 : Nat) : Int); omega) (rd_e2 hE (by show z1.toNat < 12; omega) (by show (3 * z1 + 185).toNat = 185 + 3 * z1.toNat; omega)) ?_
              exact w_iret (fun q => by cases q) (by show some (Sum.inl _) = some (Sum.inl _); unfold lr_contract; split <;> (try split) <;> (try split) <;> first | rfl | (exfalso; omega) | (congr 1; omega) | (rw [show (3 * z1 + z2 + 184).toNat = (3 * z1 + 184).toNat by omega]) | (rw [show (3 * z1 + z2 + 184).toNat = (3 * z1 + 185).toNat by omega]))
            · skip
              refine w_aln rfl ?_
              refine w_gr gx rfl (by decide) rfl (hB.2.1) ?_
              refine w_gr gnw rfl (by decide) rfl (hDN.1) ?_
              refine w_gr gD.1 rfl (by decide) rfl (rD.2.2) ?_
              refine w_iln rfl ?_
              refine w_iald (v := (M.1 s (3 * z1 + 186).toNat)) gD.2.2.2 rfl (by show (0 : Int) ≤ z1; omega) (by show z1 < ((12 : Nat) : Int); omega) (rd_e3 hE (by show z1.toNat < 12; omega) (by show (3 * z1 + 186).toNat = 186 + 3 * z1.toNat; omega)) ?_
              exact w_iret (fun q => by cases q) (by show some (Sum.inl _) = some (Sum.inl _); unfold lr_contract; split <;> (try split) <;> (try split) <;> first | rfl | (exfalso; omega) | (congr 1; omega) | (rw [show (3 * z1 + z2 + 184).toNat = (3 * z1 + 184).toNat by omega]) | (rw [show (3 * z1 + z2 + 184).toNat = (3 * z1 + 185).toNat by omega]))
          · exfalso; omega
set_option maxRecDepth 100000 in
set_option maxHeartbeats 2000000 in
theorem lr_X12_contract {G : mj_G} {M : mj_M} {x m tp s kp bc bt kc kr : Nat} {w : Nat → Nat} {z1 z2 : Int} (hI : lp_I G M x m tp s kp bc bt kc kr w) (hz1 : mj_in z1) (hz2 : mj_in z2) : mj_R mj_tab 40 176 [.inr (.inr (some m)), .inl z1, .inl z2] G M (fun r _ _ => r = some (.inl (lr_contract (M.1 s) z1 z2))) := by
  have gm := hI.gm
  have gs := hI.gs
  have m6 := hI.m6
  have b0 := hI.b0
  have bz1 : (-2147483648 : Int) ≤ z1 ∧ z1 < 2147483648 := hz1
  have bz2 : (-2147483648 : Int) ≤ z2 ∧ z2 < 2147483648 := hz2
  have hs : 0 ≤ z1 → z1 ≤ 11 → 0 ≤ z2 → z2 ≤ 1 → 0 ≤ M.1 s (3 * z1 + z2 + 184).toNat ∧ M.1 s (3 * z1 + z2 + 184).toNat ≤ 9 := fun a1 a2 a3 a4 => by
    have h := hI.V.1.1 s (184 + (3 * z1 + z2).toNat)
    rw [gs] at h
    have g := ab_s_d (3 * z1 + z2).toNat (by omega) (by omega)
    rw [show (3 * z1 + z2 + 184).toNat = 184 + (3 * z1 + z2).toNat by omega]
    exact ⟨Int.le_trans g.1 h.1, Int.le_trans h.2 g.2⟩
  refine ⟨Nat.le_of_ble_eq_true rfl, ?_⟩
  show wz 39 mt_X12_contract.2.2.2.2.1 _ mt_X12_contract.2.2.2.2.1 [some (.inr (.inr (some m))), some (.inl z1), some (.inl z2)] [] G M _ _
  refine w_aln rfl ?_
  refine w_ic ?_
  refine w_pi gm rfl (by decide) rfl (fun q => by cases q) ?_
  refine w_iln rfl ?_
  refine w_cs (st := []) rfl (Nat.le_of_ble_eq_true rfl) (fun kk h => h) ⟨Nat.le_of_ble_eq_true rfl, ?_⟩
  show wz (38) mt_X12_isMonth.2.2.2.2.1 _ mt_X12_isMonth.2.2.2.2.1 [some (.inl z1)] [] _ _ _ _
  refine w_iln rfl ?_
  refine w_ic ?_
  refine w_bp ?_
  refine w_cs (st := []) rfl (Nat.le_of_ble_eq_true rfl) (fun kk h => h) ⟨Nat.le_of_ble_eq_true rfl, ?_⟩
  show wz (37) mt_X12_isIn.2.2.2.2.1 _ mt_X12_isIn.2.2.2.2.1 [some (.inl z1), some (.inl 0), some (.inl 11)] [] _ _ _ _
  refine w_iln rfl ?_
  refine w_iln rfl ?_
  refine w_cmlt (fun c1 => ?_) (fun c1 => ?_)
  · skip
    refine w_ic ?_
    refine w_iret (fun _ => Or.inl rfl) ?_
    refine w_iret (fun _ => Or.inl rfl) ?_
    refine w_ifeq (fun c2 => ?_) (fun c2 => ?_)
    · skip
      refine w_ic ?_
      exact w_iret (fun q => by cases q) (by show some (Sum.inl _) = some (Sum.inl _); unfold lr_contract; split <;> (try split) <;> (try split) <;> first | rfl | (exfalso; omega) | (congr 1; omega) | (rw [show (3 * z1 + z2 + 184).toNat = (3 * z1 + 184).toNat by omega]) | (rw [show (3 * z1 + z2 + 184).toNat = (3 * z1 + 185).toNat by omega]))
    · exfalso; omega
  · skip
    refine w_iln rfl ?_
    refine w_iln rfl ?_
    refine w_cmgt (fun c3 => ?_) (fun c3 => ?_)
    · skip
      refine w_ic ?_
      refine w_iret (fun _ => Or.inl rfl) ?_
      refine w_iret (fun _ => Or.inl rfl) ?_
      refine w_ifeq (fun c4 => ?_) (fun c4 => ?_)
      · skip
        refine w_ic ?_
        exact w_iret (fun q => by cases q) (by show some (Sum.inl _) = some (Sum.inl _); unfold lr_contract; split <;> (try split) <;> (try split) <;> first | rfl | (exfalso; omega) | (congr 1; omega) | (rw [show (3 * z1 + z2 + 184).toNat = (3 * z1 + 184).toNat by omega]) | (rw [show (3 * z1 + z2 + 184).toNat = (3 * z1 + 185).toNat by omega]))
      · exfalso; omega
    · skip
      refine w_ic ?_
      refine w_goto ?_
      refine w_iret (fun _ => Or.inr rfl) ?_
      refine w_iret (fun _ => Or.inr rfl) ?_
      refine w_ifeq (fun c5 => ?_) (fun c5 => ?_)
      · exfalso; omega
      · skip
        refine w_iln rfl ?_
        refine w_ic ?_
        refine w_ic ?_
        refine w_cs (st := []) rfl (Nat.le_of_ble_eq_true rfl) (fun kk h => h) ⟨Nat.le_of_ble_eq_true rfl, ?_⟩
        show wz (38) mt_X12_isIn.2.2.2.2.1 _ mt_X12_isIn.2.2.2.2.1 [some (.inl z2), some (.inl 0), some (.inl 2)] [] _ _ _ _
        refine w_iln rfl ?_
        refine w_iln rfl ?_
        refine w_cmlt (fun c6 => ?_) (fun c6 => ?_)
        · skip
          refine w_ic ?_
          refine w_iret (fun _ => Or.inl rfl) ?_
          refine w_ifeq (fun c7 => ?_) (fun c7 => ?_)
          · skip
            refine w_ic ?_
            exact w_iret (fun q => by cases q) (by show some (Sum.inl _) = some (Sum.inl _); unfold lr_contract; split <;> (try split) <;> (try split) <;> first | rfl | (exfalso; omega) | (congr 1; omega) | (rw [show (3 * z1 + z2 + 184).toNat = (3 * z1 + 184).toNat by omega]) | (rw [show (3 * z1 + z2 + 184).toNat = (3 * z1 + 185).toNat by omega]))
          · exfalso; omega
        · skip
          refine w_iln rfl ?_
          refine w_iln rfl ?_
          refine w_cmgt (fun c8 => ?_) (fun c8 => ?_)
          · skip
            refine w_ic ?_
            refine w_iret (fun _ => Or.inl rfl) ?_
            refine w_ifeq (fun c9 => ?_) (fun c9 => ?_)
            · skip
              refine w_ic ?_
              exact w_iret (fun q => by cases q) (by show some (Sum.inl _) = some (Sum.inl _); unfold lr_contract; split <;> (try split) <;> (try split) <;> first | rfl | (exfalso; omega) | (congr 1; omega) | (rw [show (3 * z1 + z2 + 184).toNat = (3 * z1 + 184).toNat by omega]) | (rw [show (3 * z1 + z2 + 184).toNat = (3 * z1 + 185).toNat by omega]))
            · exfalso; omega
          · skip
            refine w_ic ?_
            refine w_goto ?_
            refine w_iret (fun _ => Or.inr rfl) ?_
            refine w_ifeq (fun c10 => ?_) (fun c10 => ?_)
            · exfalso; omega
            · skip
              refine w_aln rfl ?_
              refine w_gr gm rfl (by decide) rfl (m6) ?_
              refine w_sp ?_
              refine w_ic ?_
              refine w_iln rfl ?_
              refine w_mul ⟨by show (-2147483648 : Int) ≤ 3 * z1; omega, by show 3 * z1 < (2147483648 : Int); omega⟩ ?_
              refine w_add ⟨by show (-2147483648 : Int) ≤ 184 + (3 * z1); omega, by show 184 + (3 * z1) < (2147483648 : Int); omega⟩ ?_
              refine w_iald (v := (M.1 s (3 * z1 + 184).toNat)) gs rfl (by show (0 : Int) ≤ 184 + (3 * z1); omega) (by show 184 + (3 * z1) < ((537 : Nat) : Int); omega) ((hn_n (Or.inl (hn_ne gs gm (by decide)))).trans (congrArg (M.1 s) (by show (184 + (3 * z1)).toNat = (3 * z1 + 184).toNat; omega))) ?_
              refine w_ifne (fun c11 => ?_) (fun c11 => ?_)
              · skip
                refine w_iln rfl ?_
                refine w_ic ?_
                refine w_cmge (fun c12 => ?_) (fun c12 => ?_)
                · skip
                  refine w_aln rfl ?_
                  refine w_gr gm rfl (by decide) rfl (m6) ?_
                  refine w_sp ?_
                  refine w_ic ?_
                  refine w_iln rfl ?_
                  refine w_mul ⟨by show (-2147483648 : Int) ≤ 3 * z1; omega, by show 3 * z1 < (2147483648 : Int); omega⟩ ?_
                  refine w_add ⟨by show (-2147483648 : Int) ≤ 184 + (3 * z1); omega, by show 184 + (3 * z1) < (2147483648 : Int); omega⟩ ?_
                  refine w_ic ?_
                  refine w_add ⟨by show (-2147483648 : Int) ≤ (184 + (3 * z1)) + 2; omega, by show (184 + (3 * z1)) + 2 < (2147483648 : Int); omega⟩ ?_
                  refine w_iald (v := (M.1 s (3 * z1 + 186).toNat)) gs rfl (by show (0 : Int) ≤ (184 + (3 * z1)) + 2; omega) (by show (184 + (3 * z1)) + 2 < ((537 : Nat) : Int); omega) ((hn_n (Or.inl (hn_ne gs gm (by decide)))).trans (congrArg (M.1 s) (by show ((184 + (3 * z1)) + 2).toNat = (3 * z1 + 186).toNat; omega))) ?_
                  exact w_iret (fun q => by cases q) (by show some (Sum.inl _) = some (Sum.inl _); unfold lr_contract; split <;> (try split) <;> (try split) <;> first | rfl | (exfalso; omega) | (congr 1; omega) | (rw [show (3 * z1 + z2 + 184).toNat = (3 * z1 + 184).toNat by omega]) | (rw [show (3 * z1 + z2 + 184).toNat = (3 * z1 + 185).toNat by omega]))
                · skip
                  refine w_aln rfl ?_
                  refine w_gr gm rfl (by decide) rfl (m6) ?_
                  refine w_sp ?_
                  refine w_ic ?_
                  refine w_iln rfl ?_
                  refine w_mul ⟨by show (-2147483648 : Int) ≤ 3 * z1; omega, by show 3 * z1 < (2147483648 : Int); omega⟩ ?_
                  refine w_add ⟨by show (-2147483648 : Int) ≤ 184 + (3 * z1); omega, by show 184 + (3 * z1) < (2147483648 : Int); omega⟩ ?_
                  refine w_iln rfl ?_
                  refine w_add ⟨by show (-2147483648 : Int) ≤ (184 + (3 * z1)) + z2; omega, by show (184 + (3 * z1)) + z2 < (2147483648 : Int); omega⟩ ?_
                  refine w_iald (v := (M.1 s (3 * z1 + z2 + 184).toNat)) gs rfl (by show (0 : Int) ≤ (184 + (3 * z1)) + z2; omega) (by show (184 + (3 * z1)) + z2 < ((537 : Nat) : Int); omega) ((hn_n (Or.inl (hn_ne gs gm (by decide)))).trans (congrArg (M.1 s) (by show ((184 + (3 * z1)) + z2).toNat = (3 * z1 + z2 + 184).toNat; omega))) ?_
                  refine w_ic ?_
                  refine w_sub ⟨by show (-2147483648 : Int) ≤ (M.1 s (3 * z1 + z2 + 184).toNat) - 1; omega, by show (M.1 s (3 * z1 + z2 + 184).toNat) - 1 < (2147483648 : Int); omega⟩ ?_
                  refine w_goto ?_
                  exact w_iret (fun q => by cases q) (by show some (Sum.inl _) = some (Sum.inl _); unfold lr_contract; split <;> (try split) <;> (try split) <;> first | rfl | (exfalso; omega) | (congr 1; omega) | (rw [show (3 * z1 + z2 + 184).toNat = (3 * z1 + 184).toNat by omega]) | (rw [show (3 * z1 + z2 + 184).toNat = (3 * z1 + 185).toNat by omega]))
              · skip
                refine w_ic ?_
                exact w_iret (fun q => by cases q) (by show some (Sum.inl _) = some (Sum.inl _); unfold lr_contract; split <;> (try split) <;> (try split) <;> first | rfl | (exfalso; omega) | (congr 1; omega) | (rw [show (3 * z1 + z2 + 184).toNat = (3 * z1 + 184).toNat by omega]) | (rw [show (3 * z1 + z2 + 184).toNat = (3 * z1 + 185).toNat by omega]))
