/-! ===== ROUNDS of the class (laid by a program) ===== -/
def ro_GA (G : mj_G) (w : Nat → Nat) : Prop := G (w 146) = (1005, 0) ∧ G (w 147) = (31100, 8) ∧ G (w 148) = (32100, 12) ∧ G (w 149) = (33100, 12) ∧ G (w 349) = (62100, 8) ∧ G (w 350) = (63100, 12)
def ro_GB (M : mj_M) (w : Nat → Nat) (x m : Nat) : Prop := M.2.2 x 7 = some (w 146) ∧ M.2.2 (w 146) 1 = some (w 147) ∧ M.2.2 (w 146) 2 = some (w 148) ∧ M.2.2 (w 146) 3 = some (w 149) ∧ M.2.2 m 41 = some (w 349) ∧ M.2.2 m 42 = some (w 350)
/-- cells that ROUNDS leave -/
abbrev ro_ne (w : Nat → Nat) (a : Nat) : Prop := a ≠ w 146 ∧ a ≠ w 147 ∧ a ≠ w 148 ∧ a ≠ w 149
/-- the class amid ROUNDS -/
def ro_C (w : Nat → Nat) (M0 : mj_M) (HM PR OW : Nat → Int) (M : mj_M) : Prop := M.2 = M0.2 ∧ (∀ a, ro_ne w a → M.1 a = M0.1 a) ∧ M.1 (w 146) 0 = 1 ∧ (∀ k, k < 8 → M.1 (w 147) k = HM k) ∧ (∀ k, k < 12 → M.1 (w 148) k = PR k) ∧ (∀ k, k < 12 → M.1 (w 149) k = OW k)
section RC
variable {G : mj_G} {w : Nat → Nat} {M0 M : mj_M} {HM PR OW : Nat → Int} {j a k b : Nat} {v z : Int}
theorem ro_C.r (h : ro_C w M0 HM PR OW M) (e : M0.2.2 a k = some b) : M.2.2 a k = some b := by rw [h.1]; exact e
theorem ro_C.i (h : ro_C w M0 HM PR OW M) (n : ro_ne w a) (e : M0.1 a k = z) : M.1 a k = z := by rw [h.2.1 a n]; exact e
theorem ro_up {a : Nat} {F : Nat → Int} {n : Nat} (h : ∀ k, k < n → M.1 a k = F k) : ∀ k, k < n → (mj_p0 M a j v).1 a k = rv_up F j v k := fun k hk => by
  by_cases e : k = j
  · rw [e, rv_up_s]; exact hn_s
  · rw [rv_up_n e]; exact (hn_n (Or.inr e)).trans (h k hk)
theorem ro_C.h7 (h : ro_C w M0 HM PR OW M) (ga : ro_GA G w) : ro_C w M0 (rv_up HM j v) PR OW (mj_p0 M (w 147) j v) :=
  ⟨h.1, fun a n => (wz_c n.2.1).trans (h.2.1 a n), (hn_n (Or.inl (hn_ne ga.1 ga.2.1 (by decide)))).trans h.2.2.1, ro_up h.2.2.2.1, fun k hk => (hn_n (Or.inl (hn_ne ga.2.2.1 ga.2.1 (by decide)))).trans (h.2.2.2.2.1 k hk), fun k hk => (hn_n (Or.inl (hn_ne ga.2.2.2.1 ga.2.1 (by decide)))).trans (h.2.2.2.2.2 k hk)⟩
theorem ro_C.h8 (h : ro_C w M0 HM PR OW M) (ga : ro_GA G w) : ro_C w M0 HM (rv_up PR j v) OW (mj_p0 M (w 148) j v) :=
  ⟨h.1, fun a n => (wz_c n.2.2.1).trans (h.2.1 a n), (hn_n (Or.inl (hn_ne ga.1 ga.2.2.1 (by decide)))).trans h.2.2.1, fun k hk => (hn_n (Or.inl (hn_ne ga.2.1 ga.2.2.1 (by decide)))).trans (h.2.2.2.1 k hk), ro_up h.2.2.2.2.1, fun k hk => (hn_n (Or.inl (hn_ne ga.2.2.2.1 ga.2.2.1 (by decide)))).trans (h.2.2.2.2.2 k hk)⟩
theorem ro_C.h9 (h : ro_C w M0 HM PR OW M) (ga : ro_GA G w) : ro_C w M0 HM PR (rv_up OW j v) (mj_p0 M (w 149) j v) :=
  ⟨h.1, fun a n => (wz_c n.2.2.2).trans (h.2.1 a n), (hn_n (Or.inl (hn_ne ga.1 ga.2.2.2.1 (by decide)))).trans h.2.2.1, fun k hk => (hn_n (Or.inl (hn_ne ga.2.1 ga.2.2.2.1 (by decide)))).trans (h.2.2.2.1 k hk), fun k hk => (hn_n (Or.inl (hn_ne ga.2.2.1 ga.2.2.2.1 (by decide)))).trans (h.2.2.2.2.1 k hk), ro_up h.2.2.2.2.2⟩
end RC
theorem r_cl1 {G : mj_G} {M0 : mj_M} {x m : Nat} {w : Nat → Nat} {Q : mj_P} {d : Nat} (ga : ro_GA G w) (gb : ro_GB M0 w x m) : ∀ (n : Nat) (i : Int) (M : mj_M) (cb sb : Nat), i + n = 8 → 0 ≤ i → M.2 = M0.2 → (∀ a, ro_ne w a → M.1 a = M0.1 a) → M.1 (w 146) 0 = 1 → (∀ k : Nat, (k : Int) < i → M.1 (w 147) k = -1) → (∀ (M' : mj_M) (cb sb : Nat), M'.2 = M0.2 → (∀ a, ro_ne w a → M'.1 a = M0.1 a) → M'.1 (w 146) 0 = 1 → (∀ k : Nat, k < 8 → M'.1 (w 147) k = -1) → wz d mt_X4_clear.2.2.2.2.1 Q (mt_X4_clear.2.2.2.2.1.drop 15) [some (.inr (.inr (some (w 146)))), some (.inl 8)] [] G M' cb sb) → wz d mt_X4_clear.2.2.2.2.1 Q (mt_X4_clear.2.2.2.2.1.drop 5) [some (.inr (.inr (some (w 146)))), some (.inl i)] [] G M cb sb := by
  intro n
  induction n with
  | zero =>
    intro i M cb sb e i0 h2 hn h1 hk h
    obtain rfl : i = 8 := by omega
    refine w_iln rfl ?_
    refine w_bp ?_
    refine w_cmge (fun c1 => ?_) (fun c1 => ?_)
    · skip
      exact h _ _ _ h2 hn h1 (fun k hk8 => hk k (by omega))
    · exfalso; omega
  | succ n ih =>
    intro i M cb sb e i0 h2 hn h1 hk h
    refine w_iln rfl ?_
    refine w_bp ?_
    refine w_cmge (fun c1 => ?_) (fun c1 => ?_)
    · exfalso; omega
    · skip
      refine w_aln rfl ?_
      refine w_gr ga.1 rfl (by decide) rfl ((congrArg (fun z => z.2 (w 146) 1) h2).trans gb.2.1) ?_
      refine w_iln rfl ?_
      refine w_ic ?_
      refine w_iast ga.2.1 rfl (by decide) (by show (0 : Int) ≤ i; omega) (by show i < ((8 : Nat) : Int); omega) ?_
      refine w_ii rfl ⟨by show (-2147483648 : Int) ≤ i + 1; omega, by show i + 1 < (2147483648 : Int); omega⟩ ?_
      show wz _ _ _ _ [some (.inr (.inr (some (w 146)))), some (.inl (i + 1))] _ _ _ _ _
      refine w_goto ?_
      exact ih (i + 1) _ _ _ (by omega) (by omega) h2 (fun a q => (wz_c q.2.1).trans (hn a q)) ((hn_n (Or.inl (hn_ne ga.1 ga.2.1 (by decide)))).trans h1) (fun k hk1 => by
        by_cases e5 : k = i.toNat
        · rw [e5]; exact hn_s
        · exact (hn_n (Or.inr e5)).trans (hk k (by omega))) h
theorem r_cl2 {G : mj_G} {M0 : mj_M} {x m : Nat} {w : Nat → Nat} {Q : mj_P} {d : Nat} (ga : ro_GA G w) (gb : ro_GB M0 w x m) : ∀ (n : Nat) (i : Int) (M : mj_M) (cb sb : Nat), i + n = 12 → 0 ≤ i → M.2 = M0.2 → (∀ a, ro_ne w a → M.1 a = M0.1 a) → M.1 (w 146) 0 = 1 → (∀ k : Nat, k < 8 → M.1 (w 147) k = -1) → (∀ k : Nat, (k : Int) < i → M.1 (w 148) k = 0 ∧ M.1 (w 149) k = -1) → (∀ M', ro_C w M0 (fun _ => -1) (fun _ => 0) (fun _ => -1) M' → Q none G M') → wz d mt_X4_clear.2.2.2.2.1 Q (mt_X4_clear.2.2.2.2.1.drop 17) [some (.inr (.inr (some (w 146)))), some (.inl i)] [] G M cb sb := by
  intro n
  induction n with
  | zero =>
    intro i M cb sb e i0 h2 hn h1 h7 hk h
    obtain rfl : i = 12 := by omega
    refine w_iln rfl ?_
    refine w_bp ?_
    refine w_cmge (fun c1 => ?_) (fun c1 => ?_)
    · skip
      exact w_ret (h _ ⟨h2, hn, h1, h7, fun k hk8 => (hk k (by omega)).1, fun k hk8 => (hk k (by omega)).2⟩)
    · exfalso; omega
  | succ n ih =>
    intro i M cb sb e i0 h2 hn h1 h7 hk h
    refine w_iln rfl ?_
    refine w_bp ?_
    refine w_cmge (fun c1 => ?_) (fun c1 => ?_)
    · exfalso; omega
    · skip
      refine w_aln rfl ?_
      refine w_gr ga.1 rfl (by decide) rfl ((congrArg (fun z => z.2 (w 146) 2) h2).trans gb.2.2.1) ?_
      refine w_iln rfl ?_
      refine w_ic ?_
      refine w_iast ga.2.2.1 rfl (by decide) (by show (0 : Int) ≤ i; omega) (by show i < ((12 : Nat) : Int); omega) ?_
      refine w_aln rfl ?_
      refine w_gr ga.1 rfl (by decide) rfl ((congrArg (fun z => z.2 (w 146) 3) h2).trans gb.2.2.2.1) ?_
      refine w_iln rfl ?_
      refine w_ic ?_
      refine w_iast ga.2.2.2.1 rfl (by decide) (by show (0 : Int) ≤ i; omega) (by show i < ((12 : Nat) : Int); omega) ?_
      refine w_ii rfl ⟨by show (-2147483648 : Int) ≤ i + 1; omega, by show i + 1 < (2147483648 : Int); omega⟩ ?_
      show wz _ _ _ _ [some (.inr (.inr (some (w 146)))), some (.inl (i + 1))] _ _ _ _ _
      refine w_goto ?_
      exact ih (i + 1) _ _ _ (by omega) (by omega) h2 (fun a q => (wz_c q.2.2.2).trans ((wz_c q.2.2.1).trans (hn a q))) ((hn_n (Or.inl (hn_ne ga.1 ga.2.2.2.1 (by decide)))).trans ((hn_n (Or.inl (hn_ne ga.1 ga.2.2.1 (by decide)))).trans (h1))) (fun k hk8 => (hn_n (Or.inl (hn_ne ga.2.1 ga.2.2.2.1 (by decide)))).trans ((hn_n (Or.inl (hn_ne ga.2.1 ga.2.2.1 (by decide)))).trans (h7 k hk8))) (fun k hk1 => by
        by_cases e5 : k = i.toNat
        · rw [e5]; exact ⟨(hn_n (Or.inl (hn_ne ga.2.2.1 ga.2.2.2.1 (by decide)))).trans hn_s, hn_s⟩
        · exact ⟨(hn_n (Or.inl (hn_ne ga.2.2.1 ga.2.2.2.1 (by decide)))).trans ((hn_n (Or.inr e5)).trans (hk k (by omega)).1), (hn_n (Or.inr e5)).trans ((hn_n (Or.inl (hn_ne ga.2.2.2.1 ga.2.2.1 (by decide)))).trans (hk k (by omega)).2)⟩) h
theorem r_X4_clear {G : mj_G} {M0 : mj_M} {x m : Nat} {w : Nat → Nat} {Q : mj_P} {d : Nat} (ga : ro_GA G w) (gb : ro_GB M0 w x m) (h : ∀ M', ro_C w M0 (fun _ => -1) (fun _ => 0) (fun _ => -1) M' → Q none G M') : mj_R mj_tab (d + 1) 49 [.inr (.inr (some (w 146)))] G M0 Q := by
  refine ⟨Nat.le_of_ble_eq_true rfl, ?_⟩
  show wz d mt_X4_clear.2.2.2.2.1 Q mt_X4_clear.2.2.2.2.1 [some (.inr (.inr (some (w 146)))), none] [] G M0 _ _
  refine w_aln rfl ?_
  refine w_ic ?_
  refine w_pi ga.1 rfl (by decide) rfl (fun _ => Or.inr rfl) ?_
  refine w_ic ?_
  refine w_isn ?_
  refine r_cl1 ga gb 8 0 _ _ _ rfl (by decide) rfl (fun a q => wz_c q.1) hn_s (fun k hk => by omega) (fun M1 cb sb h2 hn h1 h7 => ?_)
  refine w_ic ?_
  refine w_isn ?_
  exact r_cl2 ga gb 12 0 M1 _ _ rfl (by decide) h2 hn h1 h7 (fun k hk => by omega) h
theorem r_tb1 {G : mj_G} {M0 M : mj_M} {x m s p q : Nat} {w : Nat → Nat} {Q : mj_P} {d : Nat} (ga : ro_GA G w) (gb : ro_GB M0 w x m) (hA : lq_A G w) (hB : lq_B M0 w x) (hN : lq_N M0 w p q) (hG5 : rv_G6 (M0.1 s) 0 w p M0) (hr : rv_r6 (M0.1 s) 0) {HM PR OW : Nat → Int} (hC : ro_C w M0 HM PR OW M) (hO : ∀ m, m < 12 → -1 ≤ OW m ∧ OW m ≤ 7) (hP : ∀ m, m < 12 → 0 ≤ PR m ∧ PR m ≤ 999) {k st : Int} (k1 : 0 ≤ k) (k2 : k < 8) (s1 : 1 ≤ st) (s2 : st ≤ 99) : ∀ (n : Nat) (mm b mo : Int) (v7 : Option mj_V) (cb sb : Nat), mm + n = 12 → 0 ≤ mm → 0 ≤ mo → mo ≤ 999 → (∀ (mo' mm' : Int) (v7 : Option mj_V) (cb sb : Nat), wz (d + 1) mt_X4_takeBest.2.2.2.2.1 Q (mt_X4_takeBest.2.2.2.2.1.drop 30) [some (.inr (.inr (some (w 146)))), some (.inr (.inr (some (w p)))), some (.inl k), some (.inl st), some (.inl (ro_b (M0.1 s) PR (fun m => OW m.toNat) st k n mm b mo)), some (.inl mo'), some (.inl mm'), v7] [] G M cb sb) → wz (d + 1) mt_X4_takeBest.2.2.2.2.1 Q (mt_X4_takeBest.2.2.2.2.1.drop 6) [some (.inr (.inr (some (w 146)))), some (.inr (.inr (some (w p)))), some (.inl k), some (.inl st), some (.inl b), some (.inl mo), some (.inl mm), v7] [] G M cb sb := by
  obtain ⟨gpl, gna, gta, gba, gwa, gtr, gbr, itr, ibr, p0, p1, p2, p3, rt, rb⟩ := lq_K hA hB hN.pin.1
  have hG := hG5.1
  have b0 := hr.1.1
  have np : ro_ne w (w p) := ⟨hn_ne gpl ga.1 (by decide), hn_ne gpl ga.2.1 (by decide), hn_ne gpl ga.2.2.1 (by decide), hn_ne gpl ga.2.2.2.1 (by decide)⟩
  have nb : ∀ t, t < 8 → ro_ne w (w (p + 12 + t)) := fun t ht => ⟨hn_ne (gbr t ht) ga.1 (by decide), hn_ne (gbr t ht) ga.2.1 (by decide), hn_ne (gbr t ht) ga.2.2.1 (by decide), hn_ne (gbr t ht) ga.2.2.2.1 (by decide)⟩
  intro n
  induction n with
  | zero =>
    intro mm b mo v7 cb sb e m0 h0 h9 h
    refine w_il rfl ?_
    refine w_bp ?_
    refine w_cmge (fun c1 => ?_) (fun c1 => ?_)
    · skip
      exact h _ _ _ _ _
    · exfalso; omega
  | succ n ih =>
    intro mm b mo v7 cb sb e m0 h0 h9 h
    have ow := hO mm.toNat (by omega)
    have pr := hP mm.toNat (by omega)
    have rbm := hr.b (j := (12 * k + mm + 88).toNat) (by omega) (by omega)
    refine w_il rfl ?_
    refine w_bp ?_
    refine w_cmge (fun c1 => ?_) (fun c1 => ?_)
    · exfalso; omega
    · skip
      refine w_aln rfl ?_
      refine w_gr gpl rfl (by decide) rfl (hC.r (p2)) ?_
      refine w_iln rfl ?_
      refine w_aald gba rfl (by show (0 : Int) ≤ k; omega) (by show k < ((8 : Nat) : Int); omega) (hC.r (rb _ (by show k.toNat < 8; omega))) ?_
      refine w_il rfl ?_
      refine w_iald (v := (M0.1 s (12 * k + mm + 88).toNat)) (gbr _ (by show k.toNat < 8; omega)) rfl (by show (0 : Int) ≤ mm; omega) (by show mm < ((12 : Nat) : Int); omega) (hC.i (nb _ (by show k.toNat < 8; omega)) (lq_rB hG5 (by show k.toNat < 8; omega) (by show mm.toNat < 12; omega) (by show (12 * k + mm + 88).toNat = 88 + 12 * k.toNat + mm.toNat; omega))) ?_
      refine w_aln rfl ?_
      refine w_il rfl ?_
      refine w_iln rfl ?_
      refine w_cv (st := [.inl (M0.1 s (12 * k + mm + 88).toNat)]) rfl ga.1 rfl (Nat.le_of_ble_eq_true rfl) (fun kk h => h) ⟨Nat.le_of_ble_eq_true rfl, ?_⟩
      show wz (d) mt_X4_priceNow.2.2.2.2.1 _ mt_X4_priceNow.2.2.2.2.1 [some (.inr (.inr (some (w 146)))), some (.inl mm), some (.inl st)] [] _ _ _ _
      refine w_aln rfl ?_
      refine w_gr ga.1 rfl (by decide) rfl (hC.r gb.2.2.2.1) ?_
      refine w_iln rfl ?_
      refine w_iald (v := (OW mm.toNat)) ga.2.2.2.1 rfl (by show (0 : Int) ≤ mm; omega) (by show mm < ((12 : Nat) : Int); omega) (hC.2.2.2.2.2 _ (by show mm.toNat < 12; omega)) ?_
      refine w_ic ?_
      refine w_cmne (fun c2 => ?_) (fun c2 => ?_)
      · skip
        refine w_aln rfl ?_
        refine w_gr ga.1 rfl (by decide) rfl (hC.r gb.2.2.1) ?_
        refine w_iln rfl ?_
        refine w_iald (v := (PR mm.toNat)) ga.2.2.1 rfl (by show (0 : Int) ≤ mm; omega) (by show mm < ((12 : Nat) : Int); omega) (hC.2.2.2.2.1 _ (by show mm.toNat < 12; omega)) ?_
        refine w_iln rfl ?_
        refine w_add ⟨by show (-2147483648 : Int) ≤ (PR mm.toNat) + st; omega, by show (PR mm.toNat) + st < (2147483648 : Int); omega⟩ ?_
        refine w_iret (fun q => by cases q) ?_
        refine w_sub ⟨by show (-2147483648 : Int) ≤ (M0.1 s (12 * k + mm + 88).toNat) - ((PR mm.toNat) + st); omega, by show (M0.1 s (12 * k + mm + 88).toNat) - ((PR mm.toNat) + st) < (2147483648 : Int); omega⟩ ?_
        refine w_is ?_
        show wz _ _ _ _ [some (.inr (.inr (some (w 146)))), some (.inr (.inr (some (w p)))), some (.inl k), some (.inl st), some (.inl b), some (.inl mo), some (.inl mm), some (.inl ((M0.1 s (12 * k + mm + 88).toNat) - ((PR mm.toNat) + st)))] _ _ _ _ _
        refine w_il rfl ?_
        refine w_il rfl ?_
        refine w_cmle (fun c3 => ?_) (fun c3 => ?_)
        · skip
          refine w_ii rfl ⟨by show (-2147483648 : Int) ≤ mm + 1; omega, by show mm + 1 < (2147483648 : Int); omega⟩ ?_
          show wz _ _ _ _ [some (.inr (.inr (some (w 146)))), some (.inr (.inr (some (w p)))), some (.inl k), some (.inl st), some (.inl b), some (.inl mo), some (.inl (mm + 1)), some (.inl ((M0.1 s (12 * k + mm + 88).toNat) - ((PR mm.toNat) + st)))] _ _ _ _ _
          refine w_goto ?_
          have ev : ro_v (M0.1 s) PR (fun m => OW m.toNat) st k mm = (M0.1 s (12 * k + mm + 88).toNat) - ((PR mm.toNat) + st) := by
            show _ - _ - (if OW mm.toNat < 0 then 0 else st) = _
            split <;> omega
          have e9 : ro_b (M0.1 s) PR (fun m => OW m.toNat) st k (n + 1) mm b mo = ro_b (M0.1 s) PR (fun m => OW m.toNat) st k n (mm + 1) b mo := by
            show (if _ then _ else _) = _
            rw [ev, if_neg (by omega)]
          rw [e9] at h
          exact ih (mm + 1) b mo _ _ _ (by omega) (by omega) (by omega) (by omega) h
        · skip
          refine w_il rfl ?_
          refine w_is ?_
          show wz _ _ _ _ [some (.inr (.inr (some (w 146)))), some (.inr (.inr (some (w p)))), some (.inl k), some (.inl st), some (.inl b), some (.inl ((M0.1 s (12 * k + mm + 88).toNat) - ((PR mm.toNat) + st))), some (.inl mm), some (.inl ((M0.1 s (12 * k + mm + 88).toNat) - ((PR mm.toNat) + st)))] _ _ _ _ _
          refine w_il rfl ?_
          refine w_is ?_
          show wz _ _ _ _ [some (.inr (.inr (some (w 146)))), some (.inr (.inr (some (w p)))), some (.inl k), some (.inl st), some (.inl mm), some (.inl ((M0.1 s (12 * k + mm + 88).toNat) - ((PR mm.toNat) + st))), some (.inl mm), some (.inl ((M0.1 s (12 * k + mm + 88).toNat) - ((PR mm.toNat) + st)))] _ _ _ _ _
          refine w_ii rfl ⟨by show (-2147483648 : Int) ≤ mm + 1; omega, by show mm + 1 < (2147483648 : Int); omega⟩ ?_
          show wz _ _ _ _ [some (.inr (.inr (some (w 146)))), some (.inr (.inr (some (w p)))), some (.inl k), some (.inl st), some (.inl mm), some (.inl ((M0.1 s (12 * k + mm + 88).toNat) - ((PR mm.toNat) + st))), some (.inl (mm + 1)), some (.inl ((M0.1 s (12 * k + mm + 88).toNat) - ((PR mm.toNat) + st)))] _ _ _ _ _
          refine w_goto ?_
          have ev : ro_v (M0.1 s) PR (fun m => OW m.toNat) st k mm = (M0.1 s (12 * k + mm + 88).toNat) - ((PR mm.toNat) + st) := by
            show _ - _ - (if OW mm.toNat < 0 then 0 else st) = _
            split <;> omega
          have e9 : ro_b (M0.1 s) PR (fun m => OW m.toNat) st k (n + 1) mm b mo = ro_b (M0.1 s) PR (fun m => OW m.toNat) st k n (mm + 1) mm ((M0.1 s (12 * k + mm + 88).toNat) - ((PR mm.toNat) + st)) := by
            show (if _ then _ else _) = _
            rw [ev, if_pos (by omega)]
          rw [e9] at h
          exact ih (mm + 1) mm ((M0.1 s (12 * k + mm + 88).toNat) - ((PR mm.toNat) + st)) _ _ _ (by omega) (by omega) (by omega) (by omega) h
      · skip
        refine w_aln rfl ?_
        refine w_gr ga.1 rfl (by decide) rfl (hC.r gb.2.2.1) ?_
        refine w_iln rfl ?_
        refine w_iald (v := (PR mm.toNat)) ga.2.2.1 rfl (by show (0 : Int) ≤ mm; omega) (by show mm < ((12 : Nat) : Int); omega) (hC.2.2.2.2.1 _ (by show mm.toNat < 12; omega)) ?_
        refine w_goto ?_
        refine w_iret (fun q => by cases q) ?_
        refine w_sub ⟨by show (-2147483648 : Int) ≤ (M0.1 s (12 * k + mm + 88).toNat) - (PR mm.toNat); omega, by show (M0.1 s (12 * k + mm + 88).toNat) - (PR mm.toNat) < (2147483648 : Int); omega⟩ ?_
        refine w_is ?_
        show wz _ _ _ _ [some (.inr (.inr (some (w 146)))), some (.inr (.inr (some (w p)))), some (.inl k), some (.inl st), some (.inl b), some (.inl mo), some (.inl mm), some (.inl ((M0.1 s (12 * k + mm + 88).toNat) - (PR mm.toNat)))] _ _ _ _ _
        refine w_il rfl ?_
        refine w_il rfl ?_
        refine w_cmle (fun c4 => ?_) (fun c4 => ?_)
        · skip
          refine w_ii rfl ⟨by show (-2147483648 : Int) ≤ mm + 1; omega, by show mm + 1 < (2147483648 : Int); omega⟩ ?_
          show wz _ _ _ _ [some (.inr (.inr (some (w 146)))), some (.inr (.inr (some (w p)))), some (.inl k), some (.inl st), some (.inl b), some (.inl mo), some (.inl (mm + 1)), some (.inl ((M0.1 s (12 * k + mm + 88).toNat) - (PR mm.toNat)))] _ _ _ _ _
          refine w_goto ?_
          have ev : ro_v (M0.1 s) PR (fun m => OW m.toNat) st k mm = (M0.1 s (12 * k + mm + 88).toNat) - (PR mm.toNat) := by
            show _ - _ - (if OW mm.toNat < 0 then 0 else st) = _
            split <;> omega
          have e9 : ro_b (M0.1 s) PR (fun m => OW m.toNat) st k (n + 1) mm b mo = ro_b (M0.1 s) PR (fun m => OW m.toNat) st k n (mm + 1) b mo := by
            show (if _ then _ else _) = _
            rw [ev, if_neg (by omega)]
          rw [e9] at h
          exact ih (mm + 1) b mo _ _ _ (by omega) (by omega) (by omega) (by omega) h
        · skip
          refine w_il rfl ?_
          refine w_is ?_
          show wz _ _ _ _ [some (.inr (.inr (some (w 146)))), some (.inr (.inr (some (w p)))), some (.inl k), some (.inl st), some (.inl b), some (.inl ((M0.1 s (12 * k + mm + 88).toNat) - (PR mm.toNat))), some (.inl mm), some (.inl ((M0.1 s (12 * k + mm + 88).toNat) - (PR mm.toNat)))] _ _ _ _ _
          refine w_il rfl ?_
          refine w_is ?_
          show wz _ _ _ _ [some (.inr (.inr (some (w 146)))), some (.inr (.inr (some (w p)))), some (.inl k), some (.inl st), some (.inl mm), some (.inl ((M0.1 s (12 * k + mm + 88).toNat) - (PR mm.toNat))), some (.inl mm), some (.inl ((M0.1 s (12 * k + mm + 88).toNat) - (PR mm.toNat)))] _ _ _ _ _
          refine w_ii rfl ⟨by show (-2147483648 : Int) ≤ mm + 1; omega, by show mm + 1 < (2147483648 : Int); omega⟩ ?_
          show wz _ _ _ _ [some (.inr (.inr (some (w 146)))), some (.inr (.inr (some (w p)))), some (.inl k), some (.inl st), some (.inl mm), some (.inl ((M0.1 s (12 * k + mm + 88).toNat) - (PR mm.toNat))), some (.inl (mm + 1)), some (.inl ((M0.1 s (12 * k + mm + 88).toNat) - (PR mm.toNat)))] _ _ _ _ _
          refine w_goto ?_
          have ev : ro_v (M0.1 s) PR (fun m => OW m.toNat) st k mm = (M0.1 s (12 * k + mm + 88).toNat) - (PR mm.toNat) := by
            show _ - _ - (if OW mm.toNat < 0 then 0 else st) = _
            split <;> omega
          have e9 : ro_b (M0.1 s) PR (fun m => OW m.toNat) st k (n + 1) mm b mo = ro_b (M0.1 s) PR (fun m => OW m.toNat) st k n (mm + 1) mm ((M0.1 s (12 * k + mm + 88).toNat) - (PR mm.toNat)) := by
            show (if _ then _ else _) = _
            rw [ev, if_pos (by omega)]
          rw [e9] at h
          exact ih (mm + 1) mm ((M0.1 s (12 * k + mm + 88).toNat) - (PR mm.toNat)) _ _ _ (by omega) (by omega) (by omega) (by omega) h
theorem r_X4_takeBest {G : mj_G} {M0 M : mj_M} {x m s p q : Nat} {w : Nat → Nat} {Q : mj_P} {d : Nat} (ga : ro_GA G w) (gb : ro_GB M0 w x m) (hA : lq_A G w) (hB : lq_B M0 w x) (hN : lq_N M0 w p q) (hG5 : rv_G6 (M0.1 s) 0 w p M0) (hr : rv_r6 (M0.1 s) 0) {HM PR OW : Nat → Int} (hC : ro_C w M0 HM PR OW M) (hO : ∀ m, m < 12 → -1 ≤ OW m ∧ OW m ≤ 7) (hP : ∀ m, m < 12 → 0 ≤ PR m ∧ PR m ≤ 999) {k st : Int} (k1 : 0 ≤ k) (k2 : k < 8) (s1 : 1 ≤ st) (s2 : st ≤ 99) (h0 : (ro_b (M0.1 s) PR (fun m => OW m.toNat) st k 12 0 (-1) 0) < 0 → Q (some (.inl 0)) G M) (h1 : 0 ≤ (ro_b (M0.1 s) PR (fun m => OW m.toNat) st k 12 0 (-1) 0) → ∀ M', ro_C w M0 (rv_up (if OW (ro_b (M0.1 s) PR (fun m => OW m.toNat) st k 12 0 (-1) 0).toNat < 0 then HM else rv_up HM (OW (ro_b (M0.1 s) PR (fun m => OW m.toNat) st k 12 0 (-1) 0).toNat).toNat (-1)) k.toNat (ro_b (M0.1 s) PR (fun m => OW m.toNat) st k 12 0 (-1) 0)) (rv_up PR (ro_b (M0.1 s) PR (fun m => OW m.toNat) st k 12 0 (-1) 0).toNat (if OW (ro_b (M0.1 s) PR (fun m => OW m.toNat) st k 12 0 (-1) 0).toNat < 0 then PR (ro_b (M0.1 s) PR (fun m => OW m.toNat) st k 12 0 (-1) 0).toNat else PR (ro_b (M0.1 s) PR (fun m => OW m.toNat) st k 12 0 (-1) 0).toNat + st)) (rv_up OW (ro_b (M0.1 s) PR (fun m => OW m.toNat) st k 12 0 (-1) 0).toNat k) M' → Q (some (.inl 1)) G M') : mj_R mj_tab (d + 2) 53 [.inr (.inr (some (w 146))), .inr (.inr (some (w p))), .inl k, .inl st] G M Q := by
  obtain ⟨gpl, gna, gta, gba, gwa, gtr, gbr, itr, ibr, p0, p1, p2, p3, rt, rb⟩ := lq_K hA hB hN.pin.1
  have hG := hG5.1
  have b0 := hr.1.1
  have np : ro_ne w (w p) := ⟨hn_ne gpl ga.1 (by decide), hn_ne gpl ga.2.1 (by decide), hn_ne gpl ga.2.2.1 (by decide), hn_ne gpl ga.2.2.2.1 (by decide)⟩
  have nb : ∀ t, t < 8 → ro_ne w (w (p + 12 + t)) := fun t ht => ⟨hn_ne (gbr t ht) ga.1 (by decide), hn_ne (gbr t ht) ga.2.1 (by decide), hn_ne (gbr t ht) ga.2.2.1 (by decide), hn_ne (gbr t ht) ga.2.2.2.1 (by decide)⟩
  obtain ⟨bb, hbb⟩ : ∃ z, z = (ro_b (M0.1 s) PR (fun m => OW m.toNat) st k 12 0 (-1) 0) := ⟨_, rfl⟩
  rw [← hbb] at h0 h1
  have hb := ro_b_s (H := M0.1 s) (PR := PR) (HO := fun m => OW m.toNat) (st := st) (k := k) 12 0 (-1) 0 rfl (by decide) (by decide) (Or.inl rfl)
  rw [← hbb] at hb
  have hb1 : -1 ≤ bb ∧ bb ≤ 11 := by omega
  have ow : 0 ≤ bb → -1 ≤ OW bb.toNat ∧ OW bb.toNat ≤ 7 := fun q => hO _ (by omega)
  have pr : 0 ≤ bb → 0 ≤ PR bb.toNat ∧ PR bb.toNat ≤ 999 := fun q => hP _ (by omega)
  refine ⟨Nat.le_of_ble_eq_true rfl, ?_⟩
  show wz (d + 1) mt_X4_takeBest.2.2.2.2.1 Q mt_X4_takeBest.2.2.2.2.1 [some (.inr (.inr (some (w 146)))), some (.inr (.inr (some (w p)))), some (.inl k), some (.inl st), none, none, none, none] [] G M _ _
  refine w_ic ?_
  refine w_is ?_
  show wz _ _ _ _ [some (.inr (.inr (some (w 146)))), some (.inr (.inr (some (w p)))), some (.inl k), some (.inl st), some (.inl (-1)), none, none, none] _ _ _ _ _
  refine w_ic ?_
  refine w_is ?_
  show wz _ _ _ _ [some (.inr (.inr (some (w 146)))), some (.inr (.inr (some (w p)))), some (.inl k), some (.inl st), some (.inl (-1)), some (.inl 0), none, none] _ _ _ _ _
  refine w_ic ?_
  refine w_is ?_
  show wz _ _ _ _ [some (.inr (.inr (some (w 146)))), some (.inr (.inr (some (w p)))), some (.inl k), some (.inl st), some (.inl (-1)), some (.inl 0), some (.inl 0), none] _ _ _ _ _
  refine r_tb1 (d := d) ga gb hA hB hN hG5 hr hC hO hP k1 k2 s1 s2 12 0 (-1) 0 none _ _ rfl (by decide) (by decide) (by decide) (fun mo' mm' v7 cb sb => ?_)
  rw [← hbb]
  refine w_il rfl ?_
  refine w_ic ?_
  refine w_cmne (fun c1 => ?_) (fun c1 => ?_)
  · skip
    refine w_aln rfl ?_
    refine w_gr ga.1 rfl (by decide) rfl (hC.r gb.2.2.1) ?_
    refine w_il rfl ?_
    refine w_aln rfl ?_
    refine w_il rfl ?_
    refine w_iln rfl ?_
    refine w_cv (st := [.inl bb, .inr (.inr (some (w 148)))]) rfl ga.1 rfl (Nat.le_of_ble_eq_true rfl) (fun kk h => h) ⟨Nat.le_of_ble_eq_true rfl, ?_⟩
    show wz (d) mt_X4_priceNow.2.2.2.2.1 _ mt_X4_priceNow.2.2.2.2.1 [some (.inr (.inr (some (w 146)))), some (.inl bb), some (.inl st)] [] _ _ _ _
    refine w_aln rfl ?_
    refine w_gr ga.1 rfl (by decide) rfl (hC.r gb.2.2.2.1) ?_
    refine w_iln rfl ?_
    refine w_iald (v := (OW bb.toNat)) ga.2.2.2.1 rfl (by show (0 : Int) ≤ bb; omega) (by show bb < ((12 : Nat) : Int); omega) (hC.2.2.2.2.2 _ (by show bb.toNat < 12; omega)) ?_
    refine w_ic ?_
    refine w_cmne (fun c2 => ?_) (fun c2 => ?_)
    · skip
      refine w_aln rfl ?_
      refine w_gr ga.1 rfl (by decide) rfl (hC.r gb.2.2.1) ?_
      refine w_iln rfl ?_
      refine w_iald (v := (PR bb.toNat)) ga.2.2.1 rfl (by show (0 : Int) ≤ bb; omega) (by show bb < ((12 : Nat) : Int); omega) (hC.2.2.2.2.1 _ (by show bb.toNat < 12; omega)) ?_
      refine w_iln rfl ?_
      refine w_add ⟨by show (-2147483648 : Int) ≤ (PR bb.toNat) + st; omega, by show (PR bb.toNat) + st < (2147483648 : Int); omega⟩ ?_
      refine w_iret (fun q => by cases q) ?_
      refine w_iast ga.2.2.1 rfl (by decide) (by show (0 : Int) ≤ bb; omega) (by show bb < ((12 : Nat) : Int); omega) ?_
      have hC3 := hC.h8 (j := bb.toNat) (v := (PR bb.toNat) + st) ga
      refine w_aln rfl ?_
      refine w_gr ga.1 rfl (by decide) rfl (hC3.r gb.2.2.2.1) ?_
      refine w_il rfl ?_
      refine w_iald (v := (OW bb.toNat)) ga.2.2.2.1 rfl (by show (0 : Int) ≤ bb; omega) (by show bb < ((12 : Nat) : Int); omega) (hC3.2.2.2.2.2 _ (by show bb.toNat < 12; omega)) ?_
      refine w_ic ?_
      refine w_cmeq (fun c4 => ?_) (fun c4 => ?_)
      · exfalso; omega
      · skip
        refine w_aln rfl ?_
        refine w_gr ga.1 rfl (by decide) rfl (hC3.r gb.2.1) ?_
        refine w_aln rfl ?_
        refine w_gr ga.1 rfl (by decide) rfl (hC3.r gb.2.2.2.1) ?_
        refine w_il rfl ?_
        refine w_iald (v := (OW bb.toNat)) ga.2.2.2.1 rfl (by show (0 : Int) ≤ bb; omega) (by show bb < ((12 : Nat) : Int); omega) (hC3.2.2.2.2.2 _ (by show bb.toNat < 12; omega)) ?_
        refine w_ic ?_
        refine w_iast ga.2.1 rfl (by decide) (by show (0 : Int) ≤ (OW bb.toNat); omega) (by show (OW bb.toNat) < ((8 : Nat) : Int); omega) ?_
        have hC5 := hC3.h7 (j := (OW bb.toNat).toNat) (v := -1) ga
        refine w_aln rfl ?_
        refine w_gr ga.1 rfl (by decide) rfl (hC5.r gb.2.2.2.1) ?_
        refine w_il rfl ?_
        refine w_iln rfl ?_
        refine w_iast ga.2.2.2.1 rfl (by decide) (by show (0 : Int) ≤ bb; omega) (by show bb < ((12 : Nat) : Int); omega) ?_
        have hC6 := hC5.h9 (j := bb.toNat) (v := k) ga
        refine w_aln rfl ?_
        refine w_gr ga.1 rfl (by decide) rfl (hC6.r gb.2.1) ?_
        refine w_iln rfl ?_
        refine w_il rfl ?_
        refine w_iast ga.2.1 rfl (by decide) (by show (0 : Int) ≤ k; omega) (by show k < ((8 : Nat) : Int); omega) ?_
        have hC7 := hC6.h7 (j := k.toNat) (v := bb) ga
        refine w_ic ?_
        exact w_iret (fun _ => Or.inr rfl) (h1 (by omega) _ (by rw [if_neg (by omega), if_neg (by omega)]; exact hC7))
    · skip
      refine w_aln rfl ?_
      refine w_gr ga.1 rfl (by decide) rfl (hC.r gb.2.2.1) ?_
      refine w_iln rfl ?_
      refine w_iald (v := (PR bb.toNat)) ga.2.2.1 rfl (by show (0 : Int) ≤ bb; omega) (by show bb < ((12 : Nat) : Int); omega) (hC.2.2.2.2.1 _ (by show bb.toNat < 12; omega)) ?_
      refine w_goto ?_
      refine w_iret (fun q => by cases q) ?_
      refine w_iast ga.2.2.1 rfl (by decide) (by show (0 : Int) ≤ bb; omega) (by show bb < ((12 : Nat) : Int); omega) ?_
      have hC8 := hC.h8 (j := bb.toNat) (v := (PR bb.toNat)) ga
      refine w_aln rfl ?_
      refine w_gr ga.1 rfl (by decide) rfl (hC8.r gb.2.2.2.1) ?_
      refine w_il rfl ?_
      refine w_iald (v := (OW bb.toNat)) ga.2.2.2.1 rfl (by show (0 : Int) ≤ bb; omega) (by show bb < ((12 : Nat) : Int); omega) (hC8.2.2.2.2.2 _ (by show bb.toNat < 12; omega)) ?_
      refine w_ic ?_
      refine w_cmeq (fun c9 => ?_) (fun c9 => ?_)
      · skip
        refine w_aln rfl ?_
        refine w_gr ga.1 rfl (by decide) rfl (hC8.r gb.2.2.2.1) ?_
        refine w_il rfl ?_
        refine w_iln rfl ?_
        refine w_iast ga.2.2.2.1 rfl (by decide) (by show (0 : Int) ≤ bb; omega) (by show bb < ((12 : Nat) : Int); omega) ?_
        have hC10 := hC8.h9 (j := bb.toNat) (v := k) ga
        refine w_aln rfl ?_
        refine w_gr ga.1 rfl (by decide) rfl (hC10.r gb.2.1) ?_
        refine w_iln rfl ?_
        refine w_il rfl ?_
        refine w_iast ga.2.1 rfl (by decide) (by show (0 : Int) ≤ k; omega) (by show k < ((8 : Nat) : Int); omega) ?_
        have hC11 := hC10.h7 (j := k.toNat) (v := bb) ga
        refine w_ic ?_
        exact w_iret (fun _ => Or.inr rfl) (h1 (by omega) _ (by rw [if_pos (by omega), if_pos (by omega)]; exact hC11))
      · exfalso; omega
  · skip
    refine w_ic ?_
    exact w_iret (fun _ => Or.inl rfl) (h0 (by omega))
theorem r_rk {G : mj_G} {M0 : mj_M} {x m s p q : Nat} {w : Nat → Nat} {Q : mj_P} {d : Nat} (ga : ro_GA G w) (gb : ro_GB M0 w x m) (hA : lq_A G w) (hB : lq_B M0 w x) (hN : lq_N M0 w p q) (hG5 : rv_G6 (M0.1 s) 0 w p M0) (hr : rv_r6 (M0.1 s) 0) {st rd : Int} (s1 : 1 ≤ st) (s2 : st ≤ 99) {T : Nat} (hT : (T : Int) = M0.1 s 0) : ∀ (n : Nat) (k tk : Int) (HM PR OW : Nat → Int) (M : mj_M) (cb sb : Nat), k + n = M0.1 s 0 → 0 ≤ k → ro_C w M0 HM PR OW M → ro_I T HM PR → ro_O T HM OW → (∀ (OW' : Nat → Int) (M' : mj_M) (k' : Int) (cb sb : Nat), ro_C w M0 (ro_ks (M0.1 s) T st n k HM PR tk).1 (ro_ks (M0.1 s) T st n k HM PR tk).2.1 OW' M' → ro_I T (ro_ks (M0.1 s) T st n k HM PR tk).1 (ro_ks (M0.1 s) T st n k HM PR tk).2.1 → ro_O T (ro_ks (M0.1 s) T st n k HM PR tk).1 OW' → wz (d + 2) mt_X4_run.2.2.2.2.1 Q (mt_X4_run.2.2.2.2.1.drop 31) [some (.inr (.inr (some (w 146)))), some (.inr (.inr (some (w p)))), some (.inl st), some (.inl rd), some (.inl (ro_ks (M0.1 s) T st n k HM PR tk).2.2), some (.inl k')] [] G M' cb sb) → wz (d + 2) mt_X4_run.2.2.2.2.1 Q (mt_X4_run.2.2.2.2.1.drop 11) [some (.inr (.inr (some (w 146)))), some (.inr (.inr (some (w p)))), some (.inl st), some (.inl rd), some (.inl tk), some (.inl k)] [] G M cb sb := by
  obtain ⟨gpl, gna, gta, gba, gwa, gtr, gbr, itr, ibr, p0, p1, p2, p3, rt, rb⟩ := lq_K hA hB hN.pin.1
  have hG := hG5.1
  have b0 := hr.1.1
  have np : ro_ne w (w p) := ⟨hn_ne gpl ga.1 (by decide), hn_ne gpl ga.2.1 (by decide), hn_ne gpl ga.2.2.1 (by decide), hn_ne gpl ga.2.2.2.1 (by decide)⟩
  have nb : ∀ t, t < 8 → ro_ne w (w (p + 12 + t)) := fun t ht => ⟨hn_ne (gbr t ht) ga.1 (by decide), hn_ne (gbr t ht) ga.2.1 (by decide), hn_ne (gbr t ht) ga.2.2.1 (by decide), hn_ne (gbr t ht) ga.2.2.2.1 (by decide)⟩
  have hT8 : T ≤ 8 := by omega
  intro n
  induction n with
  | zero =>
    intro k tk HM PR OW M cb sb e k0 hC hI hO h
    refine w_il rfl ?_
    refine w_aln rfl ?_
    refine w_gi gpl rfl (by decide) rfl (hC.i np (hG.1.symm)) ?_
    refine w_cmge (fun c1 => ?_) (fun c1 => ?_)
    · skip
      exact h OW M k _ _ hC hI hO
    · exfalso; omega
  | succ n ih =>
    intro k tk HM PR OW M cb sb e k0 hC hI hO h
    have hm := hI.1 k.toNat (by omega)
    refine w_il rfl ?_
    refine w_aln rfl ?_
    refine w_gi gpl rfl (by decide) rfl (hC.i np (hG.1.symm)) ?_
    refine w_cmge (fun c1 => ?_) (fun c1 => ?_)
    · exfalso; omega
    · skip
      refine w_aln rfl ?_
      refine w_gr ga.1 rfl (by decide) rfl (hC.r gb.2.1) ?_
      refine w_il rfl ?_
      refine w_iald (v := (HM k.toNat)) ga.2.1 rfl (by show (0 : Int) ≤ k; omega) (by show k < ((8 : Nat) : Int); omega) (hC.2.2.2.1 _ (by show k.toNat < 8; omega)) ?_
      refine w_ic ?_
      refine w_cmne (fun c2 => ?_) (fun c2 => ?_)
      · skip
        refine w_ii rfl ⟨by show (-2147483648 : Int) ≤ k + 1; omega, by show k + 1 < (2147483648 : Int); omega⟩ ?_
        show wz _ _ _ _ [some (.inr (.inr (some (w 146)))), some (.inr (.inr (some (w p)))), some (.inl st), some (.inl rd), some (.inl tk), some (.inl (k + 1))] _ _ _ _ _
        refine w_goto ?_
        have g : ¬ (HM k.toNat < 0 ∧ 0 ≤ (ro_bb (M0.1 s) T st k HM PR)) := by rw [hO.bb]; omega
        obtain ⟨g1, g2, g3⟩ := ro_no (tk := tk) g
        have e9 : ro_ks (M0.1 s) T st (n + 1) k HM PR tk = ro_ks (M0.1 s) T st n (k + 1) HM PR tk := by
          show ro_ks (M0.1 s) T st n (k + 1) (ro_HM (M0.1 s) T st k HM PR) (ro_PR (M0.1 s) T st k HM PR) (ro_tk (M0.1 s) T st k HM PR tk) = _
          rw [g1, g2, g3]
        rw [e9] at h
        exact ih (k + 1) tk HM PR OW M _ _ (by omega) (by omega) hC hI hO h
      · skip
        refine w_aln rfl ?_
        refine w_aln rfl ?_
        refine w_il rfl ?_
        refine w_iln rfl ?_
        refine w_cv (st := []) rfl ga.1 rfl (Nat.le_of_ble_eq_true rfl) (fun kk h => h) (r_X4_takeBest (d := d) ga gb hA hB hN hG5 hr hC (hO.rg hT8) hI.2.2 (k := k) (st := st) (by omega) (by omega) s1 s2 (fun e0 => ?_) (fun e1 M1 hC1 => ?_))
        · skip
          refine w_ifeq (fun c3 => ?_) (fun c3 => ?_)
          · skip
            refine w_ii rfl ⟨by show (-2147483648 : Int) ≤ k + 1; omega, by show k + 1 < (2147483648 : Int); omega⟩ ?_
            show wz _ _ _ _ [some (.inr (.inr (some (w 146)))), some (.inr (.inr (some (w p)))), some (.inl st), some (.inl rd), some (.inl tk), some (.inl (k + 1))] _ _ _ _ _
            refine w_goto ?_
            have g : ¬ (HM k.toNat < 0 ∧ 0 ≤ (ro_bb (M0.1 s) T st k HM PR)) := by rw [hO.bb]; omega
            obtain ⟨g1, g2, g3⟩ := ro_no (tk := tk) g
            have e9 : ro_ks (M0.1 s) T st (n + 1) k HM PR tk = ro_ks (M0.1 s) T st n (k + 1) HM PR tk := by
              show ro_ks (M0.1 s) T st n (k + 1) (ro_HM (M0.1 s) T st k HM PR) (ro_PR (M0.1 s) T st k HM PR) (ro_tk (M0.1 s) T st k HM PR tk) = _
              rw [g1, g2, g3]
            rw [e9] at h
            exact ih (k + 1) tk HM PR OW M _ _ (by omega) (by omega) hC hI hO h
          · exfalso; omega
        · skip
          have g : HM k.toNat < 0 ∧ 0 ≤ (ro_bb (M0.1 s) T st k HM PR) := ⟨by omega, by rw [hO.bb]; exact e1⟩
          have hC2 : ro_C w M0 (ro_HM (M0.1 s) T st k HM PR) (ro_PR (M0.1 s) T st k HM PR) (rv_up OW (ro_bb (M0.1 s) T st k HM PR).toNat k) M1 := by
            have gs := ro_bb_s (H := M0.1 s) (T := T) (st := st) (k := k) (HM := HM) (PR := PR)
            rw [(ro_yes (tk := 0) g).1, (ro_yes (tk := 0) g).2.1, ← hO.at (m := (ro_bb (M0.1 s) T st k HM PR)) (by omega) (by omega), hO.bb]
            exact hC1
          refine w_ifeq (fun c4 => ?_) (fun c4 => ?_)
          · exfalso; omega
          · skip
            refine w_ic ?_
            refine w_is ?_
            show wz _ _ _ _ [some (.inr (.inr (some (w 146)))), some (.inr (.inr (some (w p)))), some (.inl st), some (.inl rd), some (.inl 1), some (.inl k)] _ _ _ _ _
            refine w_ii rfl ⟨by show (-2147483648 : Int) ≤ k + 1; omega, by show k + 1 < (2147483648 : Int); omega⟩ ?_
            show wz _ _ _ _ [some (.inr (.inr (some (w 146)))), some (.inr (.inr (some (w p)))), some (.inl st), some (.inl rd), some (.inl 1), some (.inl (k + 1))] _ _ _ _ _
            refine w_goto ?_
            have e9 : ro_ks (M0.1 s) T st (n + 1) k HM PR tk = ro_ks (M0.1 s) T st n (k + 1) (ro_HM (M0.1 s) T st k HM PR) (ro_PR (M0.1 s) T st k HM PR) 1 := by
              show ro_ks (M0.1 s) T st n (k + 1) _ _ (ro_tk (M0.1 s) T st k HM PR tk) = _
              rw [(ro_yes (tk := tk) g).2.2]
            rw [e9] at h
            exact ih (k + 1) 1 _ _ _ M1 _ _ (by omega) (by omega) hC2 (hI.go hT8 k0 (by omega) (by omega) (fun j j0 j1 => (hr.b (by omega) (by omega)).2)) (hO.go hI hT8 k0 (by omega) g) h
theorem r_rr {G : mj_G} {M0 : mj_M} {x m s p q : Nat} {w : Nat → Nat} {Q : mj_P} {d : Nat} (ga : ro_GA G w) (gb : ro_GB M0 w x m) (hA : lq_A G w) (hB : lq_B M0 w x) (hN : lq_N M0 w p q) (hG5 : rv_G6 (M0.1 s) 0 w p M0) (hr : rv_r6 (M0.1 s) 0) {st : Int} (s1 : 1 ≤ st) (s2 : st ≤ 99) {T : Nat} (hT : (T : Int) = M0.1 s 0) : ∀ (f : Nat) (rd : Int) (HM PR OW : Nat → Int) (M : mj_M) (v4 v5 : Option mj_V) (cb sb : Nat), rd + f = 1001 → 1 ≤ rd → ro_C w M0 HM PR OW M → ro_I T HM PR → ro_O T HM OW → (∀ (OW' : Nat → Int) (M' : mj_M), ro_C w M0 (ro_rs (M0.1 s) T st f (rd - 1) HM PR).2.1 (ro_rs (M0.1 s) T st f (rd - 1) HM PR).2.2 OW' M' → ro_I T (ro_rs (M0.1 s) T st f (rd - 1) HM PR).2.1 (ro_rs (M0.1 s) T st f (rd - 1) HM PR).2.2 → Q (some (.inl (ro_rs (M0.1 s) T st f (rd - 1) HM PR).1)) G M') → wz (d + 2) mt_X4_run.2.2.2.2.1 Q (mt_X4_run.2.2.2.2.1.drop 4) [some (.inr (.inr (some (w 146)))), some (.inr (.inr (some (w p)))), some (.inl st), some (.inl rd), v4, v5] [] G M cb sb := by
  obtain ⟨gpl, gna, gta, gba, gwa, gtr, gbr, itr, ibr, p0, p1, p2, p3, rt, rb⟩ := lq_K hA hB hN.pin.1
  have hG := hG5.1
  have b0 := hr.1.1
  have np : ro_ne w (w p) := ⟨hn_ne gpl ga.1 (by decide), hn_ne gpl ga.2.1 (by decide), hn_ne gpl ga.2.2.1 (by decide), hn_ne gpl ga.2.2.2.1 (by decide)⟩
  have nb : ∀ t, t < 8 → ro_ne w (w (p + 12 + t)) := fun t ht => ⟨hn_ne (gbr t ht) ga.1 (by decide), hn_ne (gbr t ht) ga.2.1 (by decide), hn_ne (gbr t ht) ga.2.2.1 (by decide), hn_ne (gbr t ht) ga.2.2.2.1 (by decide)⟩
  intro f
  induction f with
  | zero =>
    intro rd HM PR OW M v4 v5 cb sb e r0 hC hI hO h
    refine w_iln rfl ?_
    refine w_sp ?_
    refine w_cmgt (fun c1 => ?_) (fun c1 => ?_)
    · skip
      refine w_sp ?_
      have e1 : (ro_rs (M0.1 s) T st 0 (rd - 1) HM PR).1 = 1000 := by
        show rd - 1 = 1000
        omega
      have q1 := h OW M hC hI
      rw [e1] at q1
      exact w_iret (fun q => by cases q) q1
    · exfalso; omega
  | succ f ih =>
    intro rd HM PR OW M v4 v5 cb sb e r0 hC hI hO h
    refine w_iln rfl ?_
    refine w_sp ?_
    refine w_cmgt (fun c1 => ?_) (fun c1 => ?_)
    · exfalso; omega
    · skip
      refine w_ic ?_
      refine w_is ?_
      show wz _ _ _ _ [some (.inr (.inr (some (w 146)))), some (.inr (.inr (some (w p)))), some (.inl st), some (.inl rd), some (.inl 0), v5] _ _ _ _ _
      refine w_ic ?_
      refine w_is ?_
      show wz _ _ _ _ [some (.inr (.inr (some (w 146)))), some (.inr (.inr (some (w p)))), some (.inl st), some (.inl rd), some (.inl 0), some (.inl 0)] _ _ _ _ _
      refine r_rk (d := d) ga gb hA hB hN hG5 hr s1 s2 hT T 0 0 HM PR OW M _ _ (by omega) (by decide) hC hI hO (fun OW' M' k' cb sb hC' hI' hO' => ?_)
      obtain ⟨kq, hkq⟩ : ∃ z, z = ro_ks (M0.1 s) T st T 0 HM PR 0 := ⟨_, rfl⟩
      rw [← hkq] at hC' hI' hO' ⊢
      refine w_il rfl ?_
      refine w_ifne (fun c2 => ?_) (fun c2 => ?_)
      · skip
        refine w_ii rfl ⟨by show (-2147483648 : Int) ≤ rd + 1; omega, by show rd + 1 < (2147483648 : Int); omega⟩ ?_
        show wz _ _ _ _ [some (.inr (.inr (some (w 146)))), some (.inr (.inr (some (w p)))), some (.inl st), some (.inl (rd + 1)), some (.inl kq.2.2), some (.inl k')] _ _ _ _ _
        refine w_goto ?_
        have e9 : (ro_rs (M0.1 s) T st (f + 1) (rd - 1) HM PR) = ro_rs (M0.1 s) T st f (rd + 1 - 1) kq.1 kq.2.1 := by
          show (if (ro_ks (M0.1 s) T st T 0 HM PR 0).2.2 = 0 then _ else _) = _
          rw [← hkq, if_neg (by omega), show rd + 1 - 1 = rd - 1 + 1 by omega]
        rw [e9] at h
        exact ih (rd + 1) kq.1 kq.2.1 OW' M' _ _ _ _ (by omega) (by omega) hC' hI' hO' h
      · skip
        refine w_iln rfl ?_
        have e1 : (ro_rs (M0.1 s) T st (f + 1) (rd - 1) HM PR) = (rd, kq.1, kq.2.1) := by
          show (if (ro_ks (M0.1 s) T st T 0 HM PR 0).2.2 = 0 then _ else _) = _
          rw [← hkq, if_pos (by omega), show rd - 1 + 1 = rd by omega]
        have q1 := h OW' M'
        rw [e1] at q1
        exact w_iret (fun q => by cases q) (q1 hC' hI')
theorem r_X4_run {G : mj_G} {M0 : mj_M} {x m s p q : Nat} {w : Nat → Nat} {Q : mj_P} {d : Nat} (ga : ro_GA G w) (gb : ro_GB M0 w x m) (hA : lq_A G w) (hB : lq_B M0 w x) (hN : lq_N M0 w p q) (hG5 : rv_G6 (M0.1 s) 0 w p M0) (hr : rv_r6 (M0.1 s) 0) {st : Int} (s1 : 1 ≤ st) (s2 : st ≤ 99) (h : ∀ (OW' : Nat → Int) (M' : mj_M), ro_C w M0 (ro_rs (M0.1 s) (M0.1 s 0).toNat st 1000 0 (fun _ => -1) (fun _ => 0)).2.1 (ro_rs (M0.1 s) (M0.1 s 0).toNat st 1000 0 (fun _ => -1) (fun _ => 0)).2.2 OW' M' → ro_I (M0.1 s 0).toNat (ro_rs (M0.1 s) (M0.1 s 0).toNat st 1000 0 (fun _ => -1) (fun _ => 0)).2.1 (ro_rs (M0.1 s) (M0.1 s 0).toNat st 1000 0 (fun _ => -1) (fun _ => 0)).2.2 → Q (some (.inl (ro_rs (M0.1 s) (M0.1 s 0).toNat st 1000 0 (fun _ => -1) (fun _ => 0)).1)) G M') : mj_R mj_tab (d + 3) 52 [.inr (.inr (some (w 146))), .inr (.inr (some (w p))), .inl st] G M0 Q := by
  have b0 := hr.1.1
  refine ⟨Nat.le_of_ble_eq_true rfl, ?_⟩
  show wz (d + 2) mt_X4_run.2.2.2.2.1 Q mt_X4_run.2.2.2.2.1 [some (.inr (.inr (some (w 146)))), some (.inr (.inr (some (w p)))), some (.inl st), none, none, none] [] G M0 _ _
  refine w_aln rfl ?_
  refine w_cv (st := []) rfl ga.1 rfl (Nat.le_of_ble_eq_true rfl) (fun kk h => h) (r_X4_clear (d := d + 1) ga gb (fun M1 hC => ?_))
  refine w_ic ?_
  refine w_isn ?_
  exact r_rr (d := d) ga gb hA hB hN hG5 hr s1 s2 (T := (M0.1 s 0).toNat) (by omega) 1000 1 (fun _ => -1) (fun _ => 0) (fun _ => -1) M1 none none _ _ rfl (by decide) hC (ro_I0 _) (ro_O0 _) h
/-- what rounds tells, and the rows behind it -/
def lr_rounds (H : Nat → Int) (z1 : Int) : Int := if (1 ≤ z1 ∧ z1 ≤ 99) ∧ H 0 ≠ 0 then (ro_rs H (H 0).toNat z1 1000 0 (fun _ => -1) (fun _ => 0)).1 else -1
theorem r_X11_rounds {G : mj_G} {M0 : mj_M} {x m s p q : Nat} {w : Nat → Nat} {Q : mj_P} {d : Nat} (ga : ro_GA G w) (gb : ro_GB M0 w x m) (hA : lq_A G w) (hB : lq_B M0 w x) (hN : lq_N M0 w p q) (hG5 : rv_G6 (M0.1 s) 0 w p M0) (hr : rv_r6 (M0.1 s) 0) (gx : G x = (1011, 0)) {z1 : Int} (hz1 : mj_in z1) (h0 : ¬ ((1 ≤ z1 ∧ z1 ≤ 99) ∧ M0.1 s 0 ≠ 0) → Q (some (.inl (-1))) G M0) (h1 : (1 ≤ z1 ∧ z1 ≤ 99) ∧ M0.1 s 0 ≠ 0 → ∀ (OW' : Nat → Int) (M' : mj_M), ro_C w M0 (ro_rs (M0.1 s) (M0.1 s 0).toNat z1 1000 0 (fun _ => -1) (fun _ => 0)).2.1 (ro_rs (M0.1 s) (M0.1 s 0).toNat z1 1000 0 (fun _ => -1) (fun _ => 0)).2.2 OW' M' → ro_I (M0.1 s 0).toNat (ro_rs (M0.1 s) (M0.1 s 0).toNat z1 1000 0 (fun _ => -1) (fun _ => 0)).2.1 (ro_rs (M0.1 s) (M0.1 s 0).toNat z1 1000 0 (fun _ => -1) (fun _ => 0)).2.2 → Q (some (.inl (ro_rs (M0.1 s) (M0.1 s 0).toNat z1 1000 0 (fun _ => -1) (fun _ => 0)).1)) G M') : mj_R mj_tab (d + 4) 145 [.inr (.inr (some x)), .inl z1] G M0 Q := by
  obtain ⟨gpl, gna, gta, gba, gwa, gtr, gbr, itr, ibr, p0, p1, p2, p3, rt, rb⟩ := lq_K hA hB hN.pin.1
  have gnw := hA.2.2.1
  have hG := hG5.1
  have b0 := hr.1.1
  have bz1 : (-2147483648 : Int) ≤ z1 ∧ z1 < 2147483648 := hz1
  refine ⟨Nat.le_of_ble_eq_true rfl, ?_⟩
  show wz (d + 3) mt_X11_rounds.2.2.2.2.1 Q mt_X11_rounds.2.2.2.2.1 [some (.inr (.inr (some x))), some (.inl z1)] [] G M0 _ _
  refine w_iln rfl ?_
  refine w_ic ?_
  refine w_cmlt (fun c1 => ?_) (fun c1 => ?_)
  · skip
    refine w_ic ?_
    exact w_iret (fun q => by cases q) (h0 (by omega))
  · skip
    refine w_iln rfl ?_
    refine w_bp ?_
    refine w_cmgt (fun c2 => ?_) (fun c2 => ?_)
    · skip
      refine w_ic ?_
      exact w_iret (fun q => by cases q) (h0 (by omega))
    · skip
      refine w_aln rfl ?_
      refine w_gr gx rfl (by decide) rfl (hB.2.1) ?_
      refine w_gr gnw rfl (by decide) rfl (hN.1) ?_
      refine w_gi gpl rfl (by decide) rfl (hG.1.symm) ?_
      refine w_ifne (fun c3 => ?_) (fun c3 => ?_)
      · skip
        refine w_aln rfl ?_
        refine w_gr gx rfl (by decide) rfl (gb.1) ?_
        refine w_aln rfl ?_
        refine w_gr gx rfl (by decide) rfl (hB.2.1) ?_
        refine w_gr gnw rfl (by decide) rfl (hN.1) ?_
        refine w_iln rfl ?_
        refine w_cv (st := []) rfl ga.1 rfl (Nat.le_of_ble_eq_true rfl) (fun kk h => h) (r_X4_run (d := d) ga gb hA hB hN hG5 hr (st := z1) (by omega) (by omega) (fun OW' M' hC' hI' => ?_))
        exact w_iret (fun q => by cases q) (h1 ⟨⟨by omega, by omega⟩, by omega⟩ OW' M' hC' hI')
      · skip
        refine w_ic ?_
        exact w_iret (fun q => by cases q) (h0 (by omega))
