/-! ===== count (laid by a program) ===== -/
section SW
variable {d : Nat} {full : List mj_E} {Q : mj_P} {rest : List mj_E} {L : mj_L} {st : List mj_V} {G : mj_G} {M : mj_M} {cb sb pc : Nat} {im : Int}
theorem w_sw7 {df lo hi z : Int} {offs : _} {t0 t1 t2 t3 t4 t5 t6 t7 : Nat} (k0 : z < lo ∨ hi < z → wz d full Q (full.drop t0) L st G M cb sb) (k1 : z = lo → wz d full Q (full.drop t1) L st G M cb sb) (k2 : z = lo + 1 → wz d full Q (full.drop t2) L st G M cb sb) (k3 : z = lo + 1 + 1 → wz d full Q (full.drop t3) L st G M cb sb) (k4 : z = lo + 1 + 1 + 1 → wz d full Q (full.drop t4) L st G M cb sb) (k5 : z = lo + 1 + 1 + 1 + 1 → wz d full Q (full.drop t5) L st G M cb sb) (k6 : z = lo + 1 + 1 + 1 + 1 + 1 → wz d full Q (full.drop t6) L st G M cb sb) (k7 : z = lo + 1 + 1 + 1 + 1 + 1 + 1 → wz d full Q (full.drop t7) L st G M cb sb) : wz d full Q ((.tableswitch df lo hi offs, pc, [t0, t1, t2, t3, t4, t5, t6, t7], im) :: rest) L (.inl z :: st) G M cb sb := wz_st ⟨k0, k1, k2, k3, k4, k5, k6, k7, trivial⟩
end SW
def lr_count (H : Nat → Int) (t z1 : Int) : Int := if z1 = 0 then H 0 else if z1 = 1 then lq_ct (fun i => H (88 + i)) 96 else if z1 = 2 then H 1 else if z1 = 3 then H 2 else if z1 = 4 then H 3 else if z1 = 5 then H 220 else if z1 = 6 then t else -1
set_option maxRecDepth 100000 in
set_option maxHeartbeats 2000000 in
theorem lr_X11_count {G : mj_G} {M : mj_M} {x m tp s kp bc bt kc kr : Nat} {w : Nat → Nat} {z1 : Int} (hD : lq_D G M s kp kc w) (hI : lp_I G M x m tp s kp bc bt kc kr w) (hz1 : mj_in z1) : mj_R mj_tab 40 118 [.inr (.inr (some x)), .inl z1] G M (fun r _ _ => r = some (.inl (lr_count (M.1 s) (M.1 tp 1) z1))) := by
  obtain ⟨hA, hB, p, q, hN, hG6, -⟩ := hI.J
  have hG := hG6.1
  have hG5 := hG6
  obtain ⟨gpl, gna, gta, gba, gwa, gtr, gbr, itr, ibr, p0, p1, p2, p3, rt, rb⟩ := lq_K hA hB hN.pin.1
  have gx := hI.gx
  have gnw := hA.2.2.1
  have b0 := hI.b0
  have bz1 : (-2147483648 : Int) ≤ z1 ∧ z1 < 2147483648 := hz1
  obtain ⟨hDA, hDB, ⟨dn, ds, hDN, hE⟩, -⟩ := hD
  have gD := hDA dn hDN.nin.1
  refine ⟨Nat.le_of_ble_eq_true rfl, ?_⟩
  show wz 39 mt_X11_count.2.2.2.2.1 _ mt_X11_count.2.2.2.2.1 [some (.inr (.inr (some x))), some (.inl z1)] [] G M _ _
  refine w_iln rfl ?_
  refine w_sw7 (fun c1 => ?_) (fun c2 => ?_) (fun c3 => ?_) (fun c4 => ?_) (fun c5 => ?_) (fun c6 => ?_) (fun c7 => ?_) (fun c8 => ?_)
  · skip
    refine w_ic ?_
    exact w_iret (fun q => by cases q) (by show some (Sum.inl _) = some (Sum.inl _); unfold lr_count; repeat (first | rw [if_pos (by omega)] | rw [if_neg (by omega)]))
  · skip
    refine w_aln rfl ?_
    refine w_gr gx rfl (by decide) rfl (hB.2.1) ?_
    refine w_gr gnw rfl (by decide) rfl (hN.1) ?_
    refine w_gi gpl rfl (by decide) rfl (hG.1.symm) ?_
    exact w_iret (fun q => by cases q) (by show some (Sum.inl _) = some (Sum.inl _); unfold lr_count; repeat (first | rw [if_pos (by omega)] | rw [if_neg (by omega)]))
  · skip
    refine w_aln rfl ?_
    refine w_gr gx rfl (by decide) rfl (hB.2.1) ?_
    refine w_gr gnw rfl (by decide) rfl (hN.1) ?_
    refine w_gi gpl rfl (by decide) rfl (rfl) ?_
    exact w_iret (fun q => by cases q) (by show some (Sum.inl _) = some (Sum.inl _); unfold lr_count; rw [if_neg (by omega), if_pos (by omega), hG5.2.2]; simp only [Nat.zero_add])
  · skip
    refine w_aln rfl ?_
    refine w_gr gx rfl (by decide) rfl (hB.2.1) ?_
    refine w_gr gnw rfl (by decide) rfl (hN.1) ?_
    refine w_gi gpl rfl (by decide) rfl (hG.2.1.symm) ?_
    exact w_iret (fun q => by cases q) (by show some (Sum.inl _) = some (Sum.inl _); unfold lr_count; repeat (first | rw [if_pos (by omega)] | rw [if_neg (by omega)]))
  · skip
    refine w_aln rfl ?_
    refine w_gr gx rfl (by decide) rfl (hB.2.1) ?_
    refine w_gr gnw rfl (by decide) rfl (hN.1) ?_
    refine w_gi gpl rfl (by decide) rfl (hG.2.2.1.symm) ?_
    exact w_iret (fun q => by cases q) (by show some (Sum.inl _) = some (Sum.inl _); unfold lr_count; repeat (first | rw [if_pos (by omega)] | rw [if_neg (by omega)]))
  · skip
    refine w_aln rfl ?_
    refine w_gr gx rfl (by decide) rfl (hB.2.1) ?_
    refine w_gr gnw rfl (by decide) rfl (hN.1) ?_
    refine w_gi gpl rfl (by decide) rfl (hG.2.2.2.1.symm) ?_
    exact w_iret (fun q => by cases q) (by show some (Sum.inl _) = some (Sum.inl _); unfold lr_count; repeat (first | rw [if_pos (by omega)] | rw [if_neg (by omega)]))
  · skip
    refine w_aln rfl ?_
    refine w_gr gx rfl (by decide) rfl (hB.2.1) ?_
    refine w_gr gnw rfl (by decide) rfl (hDN.1) ?_
    refine w_gi gD.1 rfl (by decide) rfl (hE.2) ?_
    exact w_iret (fun q => by cases q) (by show some (Sum.inl _) = some (Sum.inl _); unfold lr_count; repeat (first | rw [if_pos (by omega)] | rw [if_neg (by omega)]))
  · skip
    refine w_aln rfl ?_
    refine w_gr gx rfl (by decide) rfl (hI.V.2.2.1.1) ?_
    refine w_gi hI.gt rfl (by decide) rfl (rfl) ?_
    exact w_iret (fun q => by cases q) (by show some (Sum.inl _) = some (Sum.inl _); unfold lr_count; repeat (first | rw [if_pos (by omega)] | rw [if_neg (by omega)]))
set_option maxRecDepth 100000 in
set_option maxHeartbeats 2000000 in
theorem lr_X12_count {G : mj_G} {M : mj_M} {x m tp s kp bc bt kc kr : Nat} {w : Nat → Nat} {z1 : Int} (hI : lp_I G M x m tp s kp bc bt kc kr w) (hz1 : mj_in z1) : mj_R mj_tab 40 179 [.inr (.inr (some m)), .inl z1] G M (fun r _ _ => r = some (.inl (lr_count (M.1 s) (M.1 m 2) z1))) := by
  have gm := hI.gm
  have gs := hI.gs
  have m6 := hI.m6
  have b0 := hI.b0
  have bz1 : (-2147483648 : Int) ≤ z1 ∧ z1 < 2147483648 := hz1
  refine ⟨Nat.le_of_ble_eq_true rfl, ?_⟩
  show wz 39 mt_X12_count.2.2.2.2.1 _ mt_X12_count.2.2.2.2.1 [some (.inr (.inr (some m))), some (.inl z1)] [] G M _ _
  refine w_aln rfl ?_
  refine w_ic ?_
  refine w_pi gm rfl (by decide) rfl (fun q => by cases q) ?_
  refine w_iln rfl ?_
  refine w_ic ?_
  refine w_cmne (fun c1 => ?_) (fun c1 => ?_)
  · skip
    refine w_iln rfl ?_
    refine w_ic ?_
    refine w_cmne (fun c2 => ?_) (fun c2 => ?_)
    · skip
      refine w_iln rfl ?_
      refine w_bp ?_
      refine w_cmne (fun c3 => ?_) (fun c3 => ?_)
      · skip
        refine w_iln rfl ?_
        refine w_ic ?_
        refine w_ic ?_
        refine w_cs (st := []) rfl (Nat.le_of_ble_eq_true rfl) (fun kk h => h) ⟨Nat.le_of_ble_eq_true rfl, ?_⟩
        show wz (38) mt_X12_isIn.2.2.2.2.1 _ mt_X12_isIn.2.2.2.2.1 [some (.inl z1), some (.inl 0), some (.inl 4)] [] _ _ _ _
        refine w_iln rfl ?_
        refine w_iln rfl ?_
        refine w_cmlt (fun c4 => ?_) (fun c4 => ?_)
        · skip
          refine w_ic ?_
          refine w_iret (fun _ => Or.inl rfl) ?_
          refine w_ifeq (fun c5 => ?_) (fun c5 => ?_)
          · skip
            refine w_ic ?_
            exact w_iret (fun q => by cases q) (by show some (Sum.inl _) = some (Sum.inl _); unfold lr_count; repeat (first | rw [if_pos (by omega)] | rw [if_neg (by omega)]))
          · exfalso; omega
        · skip
          refine w_iln rfl ?_
          refine w_iln rfl ?_
          refine w_cmgt (fun c6 => ?_) (fun c6 => ?_)
          · skip
            refine w_ic ?_
            refine w_iret (fun _ => Or.inl rfl) ?_
            refine w_ifeq (fun c7 => ?_) (fun c7 => ?_)
            · skip
              refine w_ic ?_
              exact w_iret (fun q => by cases q) (by show some (Sum.inl _) = some (Sum.inl _); unfold lr_count; repeat (first | rw [if_pos (by omega)] | rw [if_neg (by omega)]))
            · exfalso; omega
          · skip
            refine w_ic ?_
            refine w_goto ?_
            refine w_iret (fun _ => Or.inr rfl) ?_
            refine w_ifeq (fun c8 => ?_) (fun c8 => ?_)
            · exfalso; omega
            · skip
              refine w_aln rfl ?_
              refine w_gr gm rfl (by decide) rfl (m6) ?_
              refine w_iln rfl ?_
              refine w_ifne (fun c9 => ?_) (fun c9 => ?_)
              · skip
                refine w_iln rfl ?_
                refine w_ic ?_
                refine w_sub ⟨by show (-2147483648 : Int) ≤ z1 - 1; omega, by show z1 - 1 < (2147483648 : Int); omega⟩ ?_
                refine w_iald (v := (M.1 s (z1 - 1).toNat)) gs rfl (by show (0 : Int) ≤ z1 - 1; omega) (by show z1 - 1 < ((537 : Nat) : Int); omega) ((hn_n (Or.inl (hn_ne gs gm (by decide)))).trans (congrArg (M.1 s) (by show (z1 - 1).toNat = (z1 - 1).toNat; omega))) ?_
                refine w_goto ?_
                rcases (by omega : z1 = 2 ∨ z1 = 3 ∨ z1 = 4) with e9 | e9 | e9 <;> subst e9 <;> exact w_iret (fun q => by cases q) (by show some (Sum.inl _) = some (Sum.inl _); unfold lr_count; rfl)
              · skip
                refine w_ic ?_
                refine w_goto ?_
                refine w_iald (v := (M.1 s 0)) gs rfl (by show (0 : Int) ≤ 0; omega) (by show 0 < ((537 : Nat) : Int); omega) ((hn_n (Or.inl (hn_ne gs gm (by decide)))).trans (congrArg (M.1 s) (by show (0 : Int).toNat = 0; omega))) ?_
                refine w_goto ?_
                exact w_iret (fun q => by cases q) (by show some (Sum.inl _) = some (Sum.inl _); unfold lr_count; repeat (first | rw [if_pos (by omega)] | rw [if_neg (by omega)]))
      · skip
        refine w_aln rfl ?_
        refine w_gi gm rfl (by decide) rfl (hn_n (Or.inr (by decide))) ?_
        refine w_goto ?_
        exact w_iret (fun q => by cases q) (by show some (Sum.inl _) = some (Sum.inl _); unfold lr_count; repeat (first | rw [if_pos (by omega)] | rw [if_neg (by omega)]))
    · skip
      refine w_aln rfl ?_
      refine w_gr gm rfl (by decide) rfl (m6) ?_
      refine w_sp ?_
      refine w_iald (v := (M.1 s 220)) gs rfl (by show (0 : Int) ≤ 220; omega) (by show 220 < ((537 : Nat) : Int); omega) ((hn_n (Or.inl (hn_ne gs gm (by decide)))).trans (congrArg (M.1 s) (by show (220 : Int).toNat = 220; omega))) ?_
      refine w_goto ?_
      exact w_iret (fun q => by cases q) (by show some (Sum.inl _) = some (Sum.inl _); unfold lr_count; repeat (first | rw [if_pos (by omega)] | rw [if_neg (by omega)]))
  · skip
    refine w_aln rfl ?_
    refine w_cv (st := []) rfl gm rfl (Nat.le_of_ble_eq_true rfl) (fun kk h => h) (r_X12_bidMany (M := mj_p0 M m 0 0) (d := 38) gm gs m6 ?_)
    rw [show (mj_p0 M m 0 0).1 s = M.1 s from wz_c (hn_ne gs gm (by decide))]
    refine w_goto ?_
    exact w_iret (fun q => by cases q) (by show some (Sum.inl _) = some (Sum.inl _); unfold lr_count; repeat (first | rw [if_pos (by omega)] | rw [if_neg (by omega)]))
