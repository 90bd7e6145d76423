/-! ===== setBid, keep, offer, undo of the class (laid by a program) ===== -/
theorem r_X3_setBid {G : mj_G} {M : mj_M} {x p q : Nat} {w : Nat → Nat} {Q : mj_P} {d : Nat} (gx : G x = (1011, 0)) (hA : lq_A G w) (hB : lq_B M w x) (hN : lq_N M w p q) {t v n : Int} (t1 : 0 ≤ t) (t2 : t < 8) (v1 : 0 ≤ v) (v2 : v < 12) (c1 : -1000 ≤ M.1 (w p) 5) (c2 : M.1 (w p) 5 ≤ 1000) (h : ∀ M', lq_sb w p t.toNat v.toNat n M M' → Q none G M') : mj_R mj_tab (d + 1) 47 [.inr (.inr (some (w p))), .inl t, .inl v, .inl n] G M Q := by
  obtain ⟨gpl, gna, gta, gba, gwa, gtr, gbr, itr, ibr, p0, p1, p2, p3, rt, rb⟩ := lq_K hA hB hN.pin.1
  have gnw := hA.2.2.1
  have gr := gbr t.toNat (by omega)
  have npr : w p ≠ w (p + 12 + t.toNat) := hn_ne gpl gr (by decide)
  refine ⟨Nat.le_of_ble_eq_true rfl, ?_⟩
  show wz d mt_X3_setBid.2.2.2.2.1 Q mt_X3_setBid.2.2.2.2.1 [some (.inr (.inr (some (w p)))), some (.inl t), some (.inl v), some (.inl n)] [] G M _ _
  refine w_aln rfl ?_
  refine w_gr gpl rfl (by decide) rfl (p2) ?_
  refine w_iln rfl ?_
  refine w_aald gba rfl (by show (0 : Int) ≤ t; omega) (by show t < ((8 : Nat) : Int); omega) (rb _ (by show t.toNat < 8; omega)) ?_
  refine w_iln rfl ?_
  refine w_iald (v := (M.1 (w (p + 12 + t.toNat)) v.toNat)) (gbr _ (by show t.toNat < 8; omega)) rfl (by show (0 : Int) ≤ v; omega) (by show v < ((12 : Nat) : Int); omega) (rfl) ?_
  refine w_ifle (fun c1 => ?_) (fun c1 => ?_)
  · skip
    refine w_iln rfl ?_
    refine w_ifle (fun c2 => ?_) (fun c2 => ?_)
    · skip
      refine w_aln rfl ?_
      refine w_gr gpl rfl (by decide) rfl (p2) ?_
      refine w_iln rfl ?_
      refine w_aald gba rfl (by show (0 : Int) ≤ t; omega) (by show t < ((8 : Nat) : Int); omega) (rb _ (by show t.toNat < 8; omega)) ?_
      refine w_iln rfl ?_
      refine w_iln rfl ?_
      refine w_iast (gbr _ (by show t.toNat < 8; omega)) rfl (by decide) (by show (0 : Int) ≤ v; omega) (by show v < ((12 : Nat) : Int); omega) ?_
      refine w_ret (h _ ⟨rfl, fun a a1 a2 => (wz_c a2).trans (rfl), fun k hk => (hn_n (Or.inl npr)).trans (rfl), ?_, ?_⟩)
      · have e5 : (mj_p0 M (w (p + 12 + t.toNat)) v.toNat n).1 (w p) 5 = (M.1 (w p) 5) := (hn_n (Or.inl npr)).trans (rfl)
        rw [e5]
        (repeat' split) <;> omega
      · funext k
        by_cases e : k = v.toNat
        · subst e; rw [rv_up_s]; exact hn_s
        · rw [rv_up_n e]; exact (hn_n (Or.inr e)).trans (rfl)
    · skip
      refine w_aln rfl ?_
      refine w_dupr ?_
      refine w_gi gpl rfl (by decide) rfl (rfl) ?_
      refine w_ic ?_
      refine w_add ⟨by show (-2147483648 : Int) ≤ (M.1 (w p) 5) + 1; omega, by show (M.1 (w p) 5) + 1 < (2147483648 : Int); omega⟩ ?_
      refine w_pi gpl rfl (by decide) rfl (fun q => by cases q) ?_
      refine w_aln rfl ?_
      refine w_gr gpl rfl (by decide) rfl (p2) ?_
      refine w_iln rfl ?_
      refine w_aald gba rfl (by show (0 : Int) ≤ t; omega) (by show t < ((8 : Nat) : Int); omega) (rb _ (by show t.toNat < 8; omega)) ?_
      refine w_iln rfl ?_
      refine w_iln rfl ?_
      refine w_iast (gbr _ (by show t.toNat < 8; omega)) rfl (by decide) (by show (0 : Int) ≤ v; omega) (by show v < ((12 : Nat) : Int); omega) ?_
      refine w_ret (h _ ⟨rfl, fun a a1 a2 => (wz_c a2).trans ((wz_c a1).trans (rfl)), fun k hk => (hn_n (Or.inl npr)).trans ((hn_n (Or.inr hk)).trans (rfl)), ?_, ?_⟩)
      · have e5 : (mj_p0 (mj_p0 M (w p) 5 ((M.1 (w p) 5) + 1)) (w (p + 12 + t.toNat)) v.toNat n).1 (w p) 5 = (M.1 (w p) 5) + 1 := (hn_n (Or.inl npr)).trans (hn_s)
        rw [e5]
        (repeat' split) <;> omega
      · funext k
        by_cases e : k = v.toNat
        · subst e; rw [rv_up_s]; exact hn_s
        · rw [rv_up_n e]; exact (hn_n (Or.inr e)).trans ((hn_n (Or.inl (Ne.symm npr))).trans (rfl))
  · skip
    refine w_aln rfl ?_
    refine w_dupr ?_
    refine w_gi gpl rfl (by decide) rfl (rfl) ?_
    refine w_ic ?_
    refine w_sub ⟨by show (-2147483648 : Int) ≤ (M.1 (w p) 5) - 1; omega, by show (M.1 (w p) 5) - 1 < (2147483648 : Int); omega⟩ ?_
    refine w_pi gpl rfl (by decide) rfl (fun q => by cases q) ?_
    refine w_iln rfl ?_
    refine w_ifle (fun c3 => ?_) (fun c3 => ?_)
    · skip
      refine w_aln rfl ?_
      refine w_gr gpl rfl (by decide) rfl (p2) ?_
      refine w_iln rfl ?_
      refine w_aald gba rfl (by show (0 : Int) ≤ t; omega) (by show t < ((8 : Nat) : Int); omega) (rb _ (by show t.toNat < 8; omega)) ?_
      refine w_iln rfl ?_
      refine w_iln rfl ?_
      refine w_iast (gbr _ (by show t.toNat < 8; omega)) rfl (by decide) (by show (0 : Int) ≤ v; omega) (by show v < ((12 : Nat) : Int); omega) ?_
      refine w_ret (h _ ⟨rfl, fun a a1 a2 => (wz_c a2).trans ((wz_c a1).trans (rfl)), fun k hk => (hn_n (Or.inl npr)).trans ((hn_n (Or.inr hk)).trans (rfl)), ?_, ?_⟩)
      · have e5 : (mj_p0 (mj_p0 M (w p) 5 ((M.1 (w p) 5) - 1)) (w (p + 12 + t.toNat)) v.toNat n).1 (w p) 5 = (M.1 (w p) 5) - 1 := (hn_n (Or.inl npr)).trans (hn_s)
        rw [e5]
        (repeat' split) <;> omega
      · funext k
        by_cases e : k = v.toNat
        · subst e; rw [rv_up_s]; exact hn_s
        · rw [rv_up_n e]; exact (hn_n (Or.inr e)).trans ((hn_n (Or.inl (Ne.symm npr))).trans (rfl))
    · skip
      refine w_aln rfl ?_
      refine w_dupr ?_
      refine w_gi gpl rfl (by decide) rfl (hn_s) ?_
      refine w_ic ?_
      refine w_add ⟨by show (-2147483648 : Int) ≤ ((M.1 (w p) 5) - 1) + 1; omega, by show ((M.1 (w p) 5) - 1) + 1 < (2147483648 : Int); omega⟩ ?_
      refine w_pi gpl rfl (by decide) rfl (fun q => by cases q) ?_
      refine w_aln rfl ?_
      refine w_gr gpl rfl (by decide) rfl (p2) ?_
      refine w_iln rfl ?_
      refine w_aald gba rfl (by show (0 : Int) ≤ t; omega) (by show t < ((8 : Nat) : Int); omega) (rb _ (by show t.toNat < 8; omega)) ?_
      refine w_iln rfl ?_
      refine w_iln rfl ?_
      refine w_iast (gbr _ (by show t.toNat < 8; omega)) rfl (by decide) (by show (0 : Int) ≤ v; omega) (by show v < ((12 : Nat) : Int); omega) ?_
      refine w_ret (h _ ⟨rfl, fun a a1 a2 => (wz_c a2).trans ((wz_c a1).trans ((wz_c a1).trans (rfl))), fun k hk => (hn_n (Or.inl npr)).trans ((hn_n (Or.inr hk)).trans ((hn_n (Or.inr hk)).trans (rfl))), ?_, ?_⟩)
      · have e5 : (mj_p0 (mj_p0 (mj_p0 M (w p) 5 ((M.1 (w p) 5) - 1)) (w p) 5 (((M.1 (w p) 5) - 1) + 1)) (w (p + 12 + t.toNat)) v.toNat n).1 (w p) 5 = ((M.1 (w p) 5) - 1) + 1 := (hn_n (Or.inl npr)).trans (hn_s)
        rw [e5]
        (repeat' split) <;> omega
      · funext k
        by_cases e : k = v.toNat
        · subst e; rw [rv_up_s]; exact hn_s
        · rw [rv_up_n e]; exact (hn_n (Or.inr e)).trans ((hn_n (Or.inl (Ne.symm npr))).trans ((hn_n (Or.inl (Ne.symm npr))).trans (rfl)))
theorem r_keep2 {G : mj_G} {M : mj_M} {x m : Nat} {w : Nat → Nat} {Q : mj_P} {d : Nat} (hUA : lq_UA G w) (hUB : lq_UB M w x m) {k o b : Int} {z : Nat} (hz : z < 8) (z3 : M.1 (w 121) 3 = (z : Int)) (cb sb : Nat) (h : ∀ M', lq_kp w z 0 k o b M M' → Q none G M') : wz d mt_X8_keep.2.2.2.2.1 Q (mt_X8_keep.2.2.2.2.1.drop 31) [some (.inr (.inr (some (w 121)))), some (.inl k), some (.inl o), some (.inl b)] [] G M cb sb := by
  obtain ⟨gud, gut, gum, gub, gun⟩ := id hUA
  have tz : ((z : Int)).toNat = z := by omega
  refine w_aln rfl ?_
  refine w_gr gud rfl (by decide) rfl (hUB.2.1) ?_
  refine w_aln rfl ?_
  refine w_gi gud rfl (by decide) rfl (z3) ?_
  refine w_iln rfl ?_
  refine w_iast gut rfl (by decide) (by show (0 : Int) ≤ ((z : Nat) : Int); omega) (by show ((z : Nat) : Int) < ((8 : Nat) : Int); omega) ?_
  refine w_aln rfl ?_
  refine w_gr gud rfl (by decide) rfl (hUB.2.2.1) ?_
  refine w_aln rfl ?_
  refine w_gi gud rfl (by decide) rfl ((hn_n (Or.inl (hn_ne gud gut (by decide)))).trans (z3)) ?_
  refine w_iln rfl ?_
  refine w_iast gum rfl (by decide) (by show (0 : Int) ≤ ((z : Nat) : Int); omega) (by show ((z : Nat) : Int) < ((8 : Nat) : Int); omega) ?_
  refine w_aln rfl ?_
  refine w_gr gud rfl (by decide) rfl (hUB.2.2.2.1) ?_
  refine w_aln rfl ?_
  refine w_gi gud rfl (by decide) rfl ((hn_n (Or.inl (hn_ne gud gum (by decide)))).trans ((hn_n (Or.inl (hn_ne gud gut (by decide)))).trans (z3))) ?_
  refine w_iln rfl ?_
  refine w_iast gub rfl (by decide) (by show (0 : Int) ≤ ((z : Nat) : Int); omega) (by show ((z : Nat) : Int) < ((8 : Nat) : Int); omega) ?_
  refine w_aln rfl ?_
  refine w_dupr ?_
  refine w_gi gud rfl (by decide) rfl ((hn_n (Or.inl (hn_ne gud gub (by decide)))).trans ((hn_n (Or.inl (hn_ne gud gum (by decide)))).trans ((hn_n (Or.inl (hn_ne gud gut (by decide)))).trans (z3)))) ?_
  refine w_ic ?_
  refine w_add ⟨by show (-2147483648 : Int) ≤ ((z : Nat) : Int) + 1; omega, by show ((z : Nat) : Int) + 1 < (2147483648 : Int); omega⟩ ?_
  refine w_pi gud rfl (by decide) rfl (fun q => by cases q) ?_
  rw [tz]
  refine w_ret (h _ ⟨rfl, fun a a1 a2 a3 a4 => (wz_c a1).trans ((wz_c a4).trans ((wz_c a3).trans (wz_c a2))), ?_, fun i hi => ⟨?_, ?_, ?_⟩, ?_, ?_, ?_⟩)
  · exact hn_s.trans (by omega)
  · exact (hn_n (Or.inl (hn_ne gut gud (by decide)))).trans ((hn_n (Or.inl (hn_ne gut gub (by decide)))).trans ((hn_n (Or.inl (hn_ne gut gum (by decide)))).trans ((hn_n (Or.inr (by omega))).trans (rfl))))
  · exact (hn_n (Or.inl (hn_ne gum gud (by decide)))).trans ((hn_n (Or.inl (hn_ne gum gub (by decide)))).trans ((hn_n (Or.inr (by omega))).trans ((hn_n (Or.inl (hn_ne gum gut (by decide)))).trans (rfl))))
  · exact (hn_n (Or.inl (hn_ne gub gud (by decide)))).trans ((hn_n (Or.inr (by omega))).trans ((hn_n (Or.inl (hn_ne gub gum (by decide)))).trans ((hn_n (Or.inl (hn_ne gub gut (by decide)))).trans (rfl))))
  · exact (hn_n (Or.inl (hn_ne gut gud (by decide)))).trans ((hn_n (Or.inl (hn_ne gut gub (by decide)))).trans ((hn_n (Or.inl (hn_ne gut gum (by decide)))).trans (hn_s)))
  · exact (hn_n (Or.inl (hn_ne gum gud (by decide)))).trans ((hn_n (Or.inl (hn_ne gum gub (by decide)))).trans (hn_s))
  · exact (hn_n (Or.inl (hn_ne gub gud (by decide)))).trans (hn_s)
theorem lq_c1 {M : mj_M} {a x : Nat} (h : x ≠ a) : (mj_cp0 M a a 1 0 7).1 x = M.1 x := funext fun _ => if_neg (fun e => h e.1)
theorem lq_c2 {M : mj_M} {a i : Nat} (h : i < 7) : (mj_cp0 M a a 1 0 7).1 a i = M.1 a (i + 1) := (if_pos ⟨rfl, Nat.zero_le i, by omega⟩).trans (by rw [Nat.sub_zero, Nat.add_comm])
theorem r_X8_keep {G : mj_G} {M : mj_M} {x m : Nat} {w : Nat → Nat} {Q : mj_P} {d : Nat} (hUA : lq_UA G w) (hUB : lq_UB M w x m) {k o b : Int} {z : Nat} (hz : z ≤ 8) (z3 : M.1 (w 121) 3 = (z : Int)) (h : ∀ z' h' M', lq_zs z z' h' → lq_kp w z' h' k o b M M' → Q none G M') : mj_R mj_tab (d + 1) 87 [.inr (.inr (some (w 121))), .inl k, .inl o, .inl b] G M Q := by
  obtain ⟨gud, gut, gum, gub, gun⟩ := id hUA
  refine ⟨Nat.le_of_ble_eq_true rfl, ?_⟩
  show wz d mt_X8_keep.2.2.2.2.1 Q mt_X8_keep.2.2.2.2.1 [some (.inr (.inr (some (w 121)))), some (.inl k), some (.inl o), some (.inl b)] [] G M _ _
  refine w_aln rfl ?_
  refine w_gi gud rfl (by decide) rfl z3 ?_
  refine w_bp ?_
  refine w_cmlt (fun c => ?_) (fun c => ?_)
  · exact r_keep2 hUA hUB (by omega) z3 _ _ (fun M' hk => h z 0 M' (Or.inl ⟨by omega, rfl, rfl⟩) hk)
  · have e8 : z = 8 := by omega
    subst e8
    refine w_aln rfl ?_
    refine w_gr gud rfl (by decide) rfl hUB.2.1 ?_
    refine w_ic ?_
    refine w_aln rfl ?_
    refine w_gr gud rfl (by decide) rfl hUB.2.1 ?_
    refine w_ic ?_
    refine w_bp ?_
    refine w_cp0 gut rfl gut rfl (by decide) (by decide) (by decide) (by decide) (by decide) (by decide) (Nat.le_of_ble_eq_true rfl) ?_
    refine w_aln rfl ?_
    refine w_gr gud rfl (by decide) rfl hUB.2.2.1 ?_
    refine w_ic ?_
    refine w_aln rfl ?_
    refine w_gr gud rfl (by decide) rfl hUB.2.2.1 ?_
    refine w_ic ?_
    refine w_bp ?_
    refine w_cp0 gum rfl gum rfl (by decide) (by decide) (by decide) (by decide) (by decide) (by decide) (Nat.le_of_ble_eq_true rfl) ?_
    refine w_aln rfl ?_
    refine w_gr gud rfl (by decide) rfl hUB.2.2.2.1 ?_
    refine w_ic ?_
    refine w_aln rfl ?_
    refine w_gr gud rfl (by decide) rfl hUB.2.2.2.1 ?_
    refine w_ic ?_
    refine w_bp ?_
    refine w_cp0 gub rfl gub rfl (by decide) (by decide) (by decide) (by decide) (by decide) (by decide) (Nat.le_of_ble_eq_true rfl) ?_
    refine w_aln rfl ?_
    refine w_bp ?_
    refine w_pi gud rfl (by decide) rfl (fun q => by cases q) ?_
    have n2 : w 122 ≠ w 121 := hn_ne gut gud (by decide)
    have n3 : w 123 ≠ w 121 := hn_ne gum gud (by decide)
    have n4 : w 124 ≠ w 121 := hn_ne gub gud (by decide)
    have n23 : w 122 ≠ w 123 := hn_ne gut gum (by decide)
    have n24 : w 122 ≠ w 124 := hn_ne gut gub (by decide)
    have n34 : w 123 ≠ w 124 := hn_ne gum gub (by decide)
    refine r_keep2 (M := mj_p0 (mj_cp0 (mj_cp0 (mj_cp0 M (w 122) (w 122) 1 0 7) (w 123) (w 123) 1 0 7) (w 124) (w 124) 1 0 7) (w 121) 3 7) (z := 7) hUA hUB (by decide) hn_s _ _ (fun M' hk => h 7 1 M' (Or.inr ⟨rfl, rfl, rfl⟩) ?_)
    obtain ⟨k1, k2, k3, k4, k5⟩ := hk
    refine ⟨k1, fun a a1 a2 a3 a4 => (k2 a a1 a2 a3 a4).trans ((wz_c a1).trans ((lq_c1 a4).trans ((lq_c1 a3).trans (lq_c1 a2)))), k3, fun i hi => ?_, k5⟩
    obtain ⟨q1, q2, q3⟩ := k4 i hi
    refine ⟨q1.trans ((hn_n (Or.inl n2)).trans ?_), q2.trans ((hn_n (Or.inl n3)).trans ?_), q3.trans ((hn_n (Or.inl n4)).trans ?_)⟩
    · exact (congrFun (lq_c1 n24) i).trans ((congrFun (lq_c1 n23) i).trans (lq_c2 hi))
    · exact (congrFun (lq_c1 n34) i).trans ((lq_c2 hi).trans (congrFun (lq_c1 (Ne.symm n23)) _))
    · exact (lq_c2 hi).trans ((congrFun (lq_c1 (Ne.symm n34)) _).trans (congrFun (lq_c1 (Ne.symm n24)) _))
theorem lq_rB {H : Nat → Int} {w : Nat → Nat} {p t v j : Nat} {M : mj_M} (h : rv_G6 H 0 w p M) (ht : t < 8) (hv : v < 12) (e : j = 88 + 12 * t + v) : M.1 (w (p + 12 + t)) v = H j := by
  subst e; rw [← h.2.1 t v ht hv, Nat.zero_add]
set_option maxRecDepth 100000 in
theorem r_X11_offer5 {G : mj_G} {M : mj_M} {x m s p q : Nat} {w : Nat → Nat} {Q : mj_P} {d : Nat} (gx : G x = (1011, 0)) (hA : lq_A G w) (hB : lq_B M w x) (hN : lq_N M w p q) (hUA : lq_UA G w) (hUB : lq_UB M w x m) (hG6 : rv_G6 (M.1 s) 0 w p M) (b0 : 0 ≤ M.1 s 0 ∧ M.1 s 0 ≤ 8) {z1 z2 z3 : Int} {z : Nat} (hz : z ≤ 8) (zu : M.1 (w 121) 3 = (z : Int)) (h0 : ¬ lq_ok (M.1 s) z1 z2 z3 → Q (some (.inl 0)) G M) (h1 : lq_ok (M.1 s) z1 z2 z3 → ∀ z' h' M1 M2, lq_zs z z' h' → lq_kp w z' h' z1 z2 (M.1 s (12 * z1 + z2 + 88).toNat) M M1 → lq_sb w p z1.toNat z2.toNat z3 M1 M2 → Q (some (.inl 1)) G M2) : mj_R mj_tab (d + 3) 136 [.inr (.inr (some x)), .inl z1, .inl z2, .inl z3] G M Q := by
  obtain ⟨gpl, gna, gta, gba, gwa, gtr, gbr, itr, ibr, p0, p1, p2, p3, rt, rb⟩ := lq_K hA hB hN.pin.1
  have gnw := hA.2.2.1
  obtain ⟨gud, gut, gum, gub, gun⟩ := id hUA
  have hG := hG6.1
  have hG5 := hG6
  have cb5 := lq_ct_b (fun i => M.1 s (0 + (88 + i))) 96
  have c5 := hG6.2.2
  have e5 : lq_ct (fun i => M.1 s (0 + (88 + i))) 96 = lq_ct (fun i => M.1 s (88 + i)) 96 := lq_ct_cg 96 (fun i _ => by rw [Nat.zero_add])
  refine ⟨Nat.le_of_ble_eq_true rfl, ?_⟩
  show wz (d + 2) mt_X11_offer.2.2.2.2.1 Q mt_X11_offer.2.2.2.2.1 [some (.inr (.inr (some x))), some (.inl z1), some (.inl z2), some (.inl z3), none] [] G M _ _
  refine w_aln rfl ?_
  refine w_iln rfl ?_
  refine w_cv (st := []) rfl gx rfl (Nat.le_of_ble_eq_true rfl) (fun kk h => h) ⟨Nat.le_of_ble_eq_true rfl, ?_⟩
  show wz (d + 1) mt_X11_isTown.2.2.2.2.1 _ mt_X11_isTown.2.2.2.2.1 [some (.inr (.inr (some x))), some (.inl z1)] [] _ _ _ _
  refine w_iln rfl ?_
  refine w_iflt (fun c1 => ?_) (fun c1 => ?_)
  · skip
    refine w_ic ?_
    refine w_iret (fun _ => Or.inl rfl) ?_
    refine w_ifeq (fun c2 => ?_) (fun c2 => ?_)
    · skip
      refine w_ic ?_
      exact w_iret (fun _ => Or.inl rfl) (h0 (by unfold lq_ok; omega))
    · exfalso; omega
  · skip
    refine w_iln rfl ?_
    refine w_aln rfl ?_
    refine w_gr gx rfl (by decide) rfl (hB.2.1) ?_
    refine w_gr gnw rfl (by decide) rfl (hN.1) ?_
    refine w_gi gpl rfl (by decide) rfl (hG.1.symm) ?_
    refine w_cmge (fun c3 => ?_) (fun c3 => ?_)
    · skip
      refine w_ic ?_
      refine w_iret (fun _ => Or.inl rfl) ?_
      refine w_ifeq (fun c4 => ?_) (fun c4 => ?_)
      · skip
        refine w_ic ?_
        exact w_iret (fun _ => Or.inl rfl) (h0 (by unfold lq_ok; omega))
      · exfalso; omega
    · skip
      refine w_ic ?_
      refine w_goto ?_
      refine w_iret (fun _ => Or.inr rfl) ?_
      refine w_ifeq (fun c5 => ?_) (fun c5 => ?_)
      · exfalso; omega
      · skip
        refine w_iln rfl ?_
        refine w_cs (st := []) rfl (Nat.le_of_ble_eq_true rfl) (fun kk h => h) ⟨Nat.le_of_ble_eq_true rfl, ?_⟩
        show wz (d + 1) mt_X11_isMonth.2.2.2.2.1 _ mt_X11_isMonth.2.2.2.2.1 [some (.inl z2)] [] _ _ _ _
        refine w_iln rfl ?_
        refine w_iflt (fun c6 => ?_) (fun c6 => ?_)
        · skip
          refine w_ic ?_
          refine w_iret (fun _ => Or.inl rfl) ?_
          refine w_ifeq (fun c7 => ?_) (fun c7 => ?_)
          · skip
            refine w_ic ?_
            exact w_iret (fun _ => Or.inl rfl) (h0 (by unfold lq_ok; omega))
          · exfalso; omega
        · skip
          refine w_iln rfl ?_
          refine w_bp ?_
          refine w_cmge (fun c8 => ?_) (fun c8 => ?_)
          · skip
            refine w_ic ?_
            refine w_iret (fun _ => Or.inl rfl) ?_
            refine w_ifeq (fun c9 => ?_) (fun c9 => ?_)
            · skip
              refine w_ic ?_
              exact w_iret (fun _ => Or.inl rfl) (h0 (by unfold lq_ok; omega))
            · exfalso; omega
          · skip
            refine w_ic ?_
            refine w_goto ?_
            refine w_iret (fun _ => Or.inr rfl) ?_
            refine w_ifeq (fun c10 => ?_) (fun c10 => ?_)
            · exfalso; omega
            · skip
              refine w_iln rfl ?_
              refine w_iflt (fun c11 => ?_) (fun c11 => ?_)
              · skip
                refine w_ic ?_
                exact w_iret (fun _ => Or.inl rfl) (h0 (by unfold lq_ok; omega))
              · skip
                refine w_iln rfl ?_
                refine w_sp ?_
                refine w_cmle (fun c12 => ?_) (fun c12 => ?_)
                · skip
                  refine w_aln rfl ?_
                  refine w_gr gx rfl (by decide) rfl (hB.2.1) ?_
                  refine w_gr gnw rfl (by decide) rfl (hN.1) ?_
                  refine w_gr gpl rfl (by decide) rfl (p2) ?_
                  refine w_iln rfl ?_
                  refine w_aald gba rfl (by show (0 : Int) ≤ z1; omega) (by show z1 < ((8 : Nat) : Int); omega) (rb _ (by show z1.toNat < 8; omega)) ?_
                  refine w_iln rfl ?_
                  refine w_iald (v := (M.1 s (12 * z1 + z2 + 88).toNat)) (gbr _ (by show z1.toNat < 8; omega)) rfl (by show (0 : Int) ≤ z2; omega) (by show z2 < ((12 : Nat) : Int); omega) (lq_rB hG5 (by show z1.toNat < 8; omega) (by show z2.toNat < 12; omega) (by show (12 * z1 + z2 + 88).toNat = 88 + 12 * z1.toNat + z2.toNat; omega)) ?_
                  refine w_is ?_
                  show wz _ _ _ _ [some (.inr (.inr (some x))), some (.inl z1), some (.inl z2), some (.inl z3), some (.inl (M.1 s (12 * z1 + z2 + 88).toNat))] _ _ _ _ _
                  refine w_il rfl ?_
                  refine w_ifne (fun c13 => ?_) (fun c13 => ?_)
                  · skip
                    refine w_aln rfl ?_
                    refine w_gr gx rfl (by decide) rfl (hUB.1) ?_
                    refine w_iln rfl ?_
                    refine w_iln rfl ?_
                    refine w_il rfl ?_
                    refine w_cv (st := []) rfl gud rfl (Nat.le_of_ble_eq_true rfl) (fun kk h => h) (r_X8_keep (d := d + 1) hUA hUB hz zu (fun z9 h9 M1 hzs hk => ?_))
                    refine w_aln rfl ?_
                    refine w_gr gx rfl (by decide) rfl ((congrFun (congrFun (congrArg Prod.snd hk.1) _) _).trans (hB.2.1)) ?_
                    refine w_gr gnw rfl (by decide) rfl ((congrFun (congrFun (congrArg Prod.snd hk.1) _) _).trans (hN.1)) ?_
                    refine w_iln rfl ?_
                    refine w_iln rfl ?_
                    refine w_iln rfl ?_
                    have hB1 : lq_B M1 w x := by unfold lq_B; rw [hk.1]; exact hB
                    have hN1 : lq_N M1 w p q := by unfold lq_N; rw [hk.1]; exact hN
                    have f5 : M1.1 (w p) 5 = M.1 (w p) 5 := congrFun (hk.2.1 _ (hn_ne gpl gud (by decide)) (hn_ne gpl gut (by decide)) (hn_ne gpl gum (by decide)) (hn_ne gpl gub (by decide))) 5
                    refine w_cv (st := []) rfl gpl rfl (Nat.le_of_ble_eq_true rfl) (fun kk h => h) (r_X3_setBid (M := M1) (d := d + 1) gx hA hB1 hN1 (by omega) (by omega) (by omega) (by omega) (by omega) (by omega) (fun M2 hs => ?_))
                    refine w_ic ?_
                    exact w_iret (fun _ => Or.inr rfl) (h1 (by unfold lq_ok; omega) z9 h9 M1 M2 hzs hk hs)
                  · skip
                    refine w_iln rfl ?_
                    refine w_ifle (fun c14 => ?_) (fun c14 => ?_)
                    · skip
                      refine w_aln rfl ?_
                      refine w_gr gx rfl (by decide) rfl (hUB.1) ?_
                      refine w_iln rfl ?_
                      refine w_iln rfl ?_
                      refine w_il rfl ?_
                      refine w_cv (st := []) rfl gud rfl (Nat.le_of_ble_eq_true rfl) (fun kk h => h) (r_X8_keep (d := d + 1) hUA hUB hz zu (fun z9 h9 M1 hzs hk => ?_))
                      refine w_aln rfl ?_
                      refine w_gr gx rfl (by decide) rfl ((congrFun (congrFun (congrArg Prod.snd hk.1) _) _).trans (hB.2.1)) ?_
                      refine w_gr gnw rfl (by decide) rfl ((congrFun (congrFun (congrArg Prod.snd hk.1) _) _).trans (hN.1)) ?_
                      refine w_iln rfl ?_
                      refine w_iln rfl ?_
                      refine w_iln rfl ?_
                      have hB1 : lq_B M1 w x := by unfold lq_B; rw [hk.1]; exact hB
                      have hN1 : lq_N M1 w p q := by unfold lq_N; rw [hk.1]; exact hN
                      have f5 : M1.1 (w p) 5 = M.1 (w p) 5 := congrFun (hk.2.1 _ (hn_ne gpl gud (by decide)) (hn_ne gpl gut (by decide)) (hn_ne gpl gum (by decide)) (hn_ne gpl gub (by decide))) 5
                      refine w_cv (st := []) rfl gpl rfl (Nat.le_of_ble_eq_true rfl) (fun kk h => h) (r_X3_setBid (M := M1) (d := d + 1) gx hA hB1 hN1 (by omega) (by omega) (by omega) (by omega) (by omega) (by omega) (fun M2 hs => ?_))
                      refine w_ic ?_
                      exact w_iret (fun _ => Or.inr rfl) (h1 (by unfold lq_ok; omega) z9 h9 M1 M2 hzs hk hs)
                    · skip
                      refine w_aln rfl ?_
                      refine w_gr gx rfl (by decide) rfl (hB.2.1) ?_
                      refine w_gr gnw rfl (by decide) rfl (hN.1) ?_
                      refine w_gi gpl rfl (by decide) rfl (rfl) ?_
                      refine w_bp ?_
                      refine w_cmlt (fun c15 => ?_) (fun c15 => ?_)
                      · skip
                        refine w_aln rfl ?_
                        refine w_gr gx rfl (by decide) rfl (hUB.1) ?_
                        refine w_iln rfl ?_
                        refine w_iln rfl ?_
                        refine w_il rfl ?_
                        refine w_cv (st := []) rfl gud rfl (Nat.le_of_ble_eq_true rfl) (fun kk h => h) (r_X8_keep (d := d + 1) hUA hUB hz zu (fun z9 h9 M1 hzs hk => ?_))
                        refine w_aln rfl ?_
                        refine w_gr gx rfl (by decide) rfl ((congrFun (congrFun (congrArg Prod.snd hk.1) _) _).trans (hB.2.1)) ?_
                        refine w_gr gnw rfl (by decide) rfl ((congrFun (congrFun (congrArg Prod.snd hk.1) _) _).trans (hN.1)) ?_
                        refine w_iln rfl ?_
                        refine w_iln rfl ?_
                        refine w_iln rfl ?_
                        have hB1 : lq_B M1 w x := by unfold lq_B; rw [hk.1]; exact hB
                        have hN1 : lq_N M1 w p q := by unfold lq_N; rw [hk.1]; exact hN
                        have f5 : M1.1 (w p) 5 = M.1 (w p) 5 := congrFun (hk.2.1 _ (hn_ne gpl gud (by decide)) (hn_ne gpl gut (by decide)) (hn_ne gpl gum (by decide)) (hn_ne gpl gub (by decide))) 5
                        refine w_cv (st := []) rfl gpl rfl (Nat.le_of_ble_eq_true rfl) (fun kk h => h) (r_X3_setBid (M := M1) (d := d + 1) gx hA hB1 hN1 (by omega) (by omega) (by omega) (by omega) (by omega) (by omega) (fun M2 hs => ?_))
                        refine w_ic ?_
                        exact w_iret (fun _ => Or.inr rfl) (h1 (by unfold lq_ok; omega) z9 h9 M1 M2 hzs hk hs)
                      · skip
                        refine w_ic ?_
                        exact w_iret (fun _ => Or.inl rfl) (h0 (by unfold lq_ok; omega))
                · skip
                  refine w_ic ?_
                  exact w_iret (fun _ => Or.inl rfl) (h0 (by unfold lq_ok; omega))
theorem r_X11_undo5 {G : mj_G} {M : mj_M} {x m s p q : Nat} {w : Nat → Nat} {Q : mj_P} {d : Nat} (gx : G x = (1011, 0)) (hA : lq_A G w) (hB : lq_B M w x) (hN : lq_N M w p q) (hUA : lq_UA G w) (hUB : lq_UB M w x m) {z : Nat} (hz : z ≤ 8) (zu : M.1 (w 121) 3 = (z : Int)) (c1 : -900 ≤ M.1 (w p) 5) (c2 : M.1 (w p) 5 ≤ 900) (hb : ∀ i, i < z → (0 ≤ M.1 (w 122) i ∧ M.1 (w 122) i < 8) ∧ (0 ≤ M.1 (w 123) i ∧ M.1 (w 123) i < 12)) (h0 : z = 0 → Q (some (.inl (-1))) G M) (h1 : ∀ y, z = y + 1 → ∀ M2, lq_sb w p (M.1 (w 122) y).toNat (M.1 (w 123) y).toNat (M.1 (w 124) y) (mj_p0 M (w 121) 3 (y : Int)) M2 → Q (some (.inl (y : Int))) G M2) : mj_R mj_tab (d + 3) 154 [.inr (.inr (some x))] G M Q := by
  obtain ⟨gpl, gna, gta, gba, gwa, gtr, gbr, itr, ibr, p0, p1, p2, p3, rt, rb⟩ := lq_K hA hB hN.pin.1
  have gnw := hA.2.2.1
  obtain ⟨gud, gut, gum, gub, gun⟩ := id hUA
  refine ⟨Nat.le_of_ble_eq_true rfl, ?_⟩
  show wz (d + 2) mt_X11_undo.2.2.2.2.1 Q mt_X11_undo.2.2.2.2.1 [some (.inr (.inr (some x)))] [] G M _ _
  refine w_aln rfl ?_
  refine w_gr gx rfl (by decide) rfl hUB.1 ?_
  refine w_aln rfl ?_
  refine w_gr gx rfl (by decide) rfl hB.2.1 ?_
  refine w_gr gnw rfl (by decide) rfl hN.1 ?_
  refine w_cv (st := []) rfl gud rfl (Nat.le_of_ble_eq_true rfl) (fun kk h => h) ⟨Nat.le_of_ble_eq_true rfl, ?_⟩
  show wz (d + 1) mt_X8_back.2.2.2.2.1 _ mt_X8_back.2.2.2.2.1 [some (.inr (.inr (some (w 121)))), some (.inr (.inr (some (w p))))] [] _ _ _ _
  refine w_aln rfl ?_
  refine w_gi gud rfl (by decide) rfl zu ?_
  refine w_ifgt (fun c => ?_) (fun c => ?_)
  · obtain ⟨y, rfl⟩ : ∃ y, z = y + 1 := ⟨z - 1, by omega⟩
    have by_ := hb y (by omega)
    have ty : ((y : Int)).toNat = y := by omega
    refine w_aln rfl ?_
    refine w_dupr ?_
    refine w_gi gud rfl (by decide) rfl zu ?_
    refine w_ic ?_
    refine w_sub ⟨by omega, by omega⟩ ?_
    rw [show (((y + 1 : Nat) : Int) - 1) = (y : Int) by omega]
    refine w_pi gud rfl (by decide) rfl (fun q => by cases q) ?_
    refine w_aln rfl ?_
    refine w_aln rfl ?_
    refine w_gr gud rfl (by decide) rfl hUB.2.1 ?_
    refine w_aln rfl ?_
    refine w_gi gud rfl (by decide) rfl hn_s ?_
    refine w_iald (v := M.1 (w 122) y) gut rfl (by omega) (by show (y : Int) < ((8 : Nat) : Int); omega) (by rw [ty]; exact hn_n (Or.inl (hn_ne gut gud (by decide)))) ?_
    refine w_aln rfl ?_
    refine w_gr gud rfl (by decide) rfl hUB.2.2.1 ?_
    refine w_aln rfl ?_
    refine w_gi gud rfl (by decide) rfl hn_s ?_
    refine w_iald (v := M.1 (w 123) y) gum rfl (by omega) (by show (y : Int) < ((8 : Nat) : Int); omega) (by rw [ty]; exact hn_n (Or.inl (hn_ne gum gud (by decide)))) ?_
    refine w_aln rfl ?_
    refine w_gr gud rfl (by decide) rfl hUB.2.2.2.1 ?_
    refine w_aln rfl ?_
    refine w_gi gud rfl (by decide) rfl hn_s ?_
    refine w_iald (v := M.1 (w 124) y) gub rfl (by omega) (by show (y : Int) < ((8 : Nat) : Int); omega) (by rw [ty]; exact hn_n (Or.inl (hn_ne gub gud (by decide)))) ?_
    refine w_cv (st := []) rfl gpl rfl (Nat.le_of_ble_eq_true rfl) (fun kk h => h) (r_X3_setBid (M := mj_p0 M (w 121) 3 (y : Int)) (d := d) gx hA hB hN by_.1.1 by_.1.2 by_.2.1 by_.2.2 ?_ ?_ (fun M2 hs => ?_))
    · rw [show (mj_p0 M (w 121) 3 (y : Int)).1 (w p) 5 = M.1 (w p) 5 from hn_n (Or.inl (hn_ne gpl gud (by decide)))]; omega
    · rw [show (mj_p0 M (w 121) 3 (y : Int)).1 (w p) 5 = M.1 (w p) 5 from hn_n (Or.inl (hn_ne gpl gud (by decide)))]; omega
    · refine w_aln rfl ?_
      refine w_gi gud rfl (by decide) rfl (v := (y : Int)) ((congrFun (hs.2.1 _ (hn_ne gud gpl (by decide)) (hn_ne gud (gbr _ (by omega)) (by decide))) 3).trans hn_s) ?_
      refine w_iret (fun q => by cases q) ?_
      exact w_iret (fun q => by cases q) (h1 y rfl M2 hs)
  · refine w_ic ?_
    refine w_iret (fun q => by cases q) ?_
    exact w_iret (fun q => by cases q) (h0 (by omega))
