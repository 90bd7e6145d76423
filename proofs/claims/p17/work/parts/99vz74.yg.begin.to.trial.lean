section
/-! ===== a YEAR begins, goes on (laid by a program) ===== -/
section YG
variable {G : mj_G} {M M0 : mj_M} {u : Nat → Nat} {y la lb lc oa pl ta ba wa dl fa sa ca : Nat} {yr tr br : Nat → Nat} {H : Nat → Int} {M1 : mj_M}
theorem yc_L.mv (h : yc_L G M0 u y la lb lc oa yr pl ta ba wa tr br dl fa sa ca H) (e2 : M1.2 = M0.2) (e1 : ∀ a t n, G a = (t, n) → (t = 1004 ∨ t = 26100 ∨ t = 28100 ∨ t = 29100 ∨ t = 16100 ∨ t = 17100 ∨ t = 18100) → M1.1 a = M0.1 a) : yc_L G M1 u y la lb lc oa yr pl ta ba wa tr br dl fa sa ca H := ⟨h.hu, h.gy, h.gla, h.glb, h.glc, h.goa, h.gyr, h.iyr, h.gpl, h.gta, h.gba, h.gwa, h.gtr, h.gbr, h.gdl, h.gfa, h.gsa, h.gca, by rw [e2]; exact h.y3, by rw [e2]; exact h.y4, by rw [e2]; exact h.y5, by rw [e2]; exact h.y6, fun t ht => by rw [e2]; exact h.ot t ht, by rw [e2]; exact h.p1, by rw [e2]; exact h.p2, by rw [e2]; exact h.p3, fun t ht => by rw [e2]; exact h.tt t ht, fun t ht => by rw [e2]; exact h.bt t ht, by rw [e2]; exact h.d0, by rw [e2]; exact h.d1, by rw [e2]; exact h.d2, (congrFun (e1 _ _ _ h.gpl (by decide)) 4).trans h.n4, (congrFun (e1 _ _ _ h.gpl (by decide)) 6).trans h.n6, (congrFun (e1 _ _ _ h.gpl (by decide)) 7).trans h.n7, (congrFun (e1 _ _ _ h.gpl (by decide)) 8).trans h.n8, fun t v ht hv => (congrFun (e1 _ _ _ (h.gtr t ht) (by decide)) v).trans (h.nt t v ht hv), fun v hv => (congrFun (e1 _ _ _ h.gwa (by decide)) v).trans (h.nw v hv), fun t v ht hv => (congrFun (e1 _ _ _ (h.gbr t ht) (by decide)) v).trans (h.nb t v ht hv), fun v hv => (congrFun (e1 _ _ _ h.gfa (by decide)) v).trans (h.nf v hv), fun v hv => (congrFun (e1 _ _ _ h.gsa (by decide)) v).trans (h.ns v hv), fun v hv => (congrFun (e1 _ _ _ h.gca (by decide)) v).trans (h.nc v hv)⟩
theorem yc_S.re : yc_S y la lb lc yr M (fun j => M.1 y (ye_f j)) (M.1 la) (M.1 lb) (M.1 lc) (fun t => M.1 (yr t)) M := ⟨rfl, fun _ _ _ _ _ _ => rfl, rfl, fun _ _ _ => rfl, fun _ _ => rfl, fun _ _ => rfl, fun _ _ => rfl, fun _ _ _ _ => rfl⟩
end YG
/-- a YEAR's numbers and rows as it begins -/
def ye_z0 (H : Nat → Int) : Nat → Int := fun j => if j = 223 then 8 else if j = 225 then H 2 else 0
def ye_zR (H : Nat → Int) : Nat → Nat → Int := fun t w => if w = 1 ∧ t < 8 then H (7 + 9 * t) else 0
theorem r_stI {G : mj_G} {M0 : mj_M} {u : Nat → Nat} {y la lb lc oa pl ta ba wa dl fa sa ca : Nat} {yr tr br : Nat → Nat} {H : Nat → Int} {g A B C : Nat → Int} {R : Nat → Nat → Int} {Q : mj_P} {d : Nat} (hL : yc_L G M0 u y la lb lc oa yr pl ta ba wa tr br dl fa sa ca H) {i : Int} (hi : 0 ≤ i ∧ i ≤ 7) : ∀ (n : Nat) (w : Int) (r : Nat → Int) (M : mj_M) (cb sb : Nat), w + n = 11 → 0 ≤ w → yc_S y la lb lc yr M0 g A B C (ye_ru R i.toNat r) M → (∀ j : Nat, j < 11 → (j : Int) < w → r j = 0) → (∀ r M, yc_S y la lb lc yr M0 g A B C (ye_ru R i.toNat r) M → (∀ j, j < 11 → r j = 0) → wz d mt_X10_start.2.2.2.2.1 Q (mt_X10_start.2.2.2.2.1.drop 53) [some (.inr (.inr (some y))), some (.inr (.inr (some pl))), some (.inl i), some (.inl 11)] [] G M cb sb) → wz d mt_X10_start.2.2.2.2.1 Q (mt_X10_start.2.2.2.2.1.drop 41) [some (.inr (.inr (some y))), some (.inr (.inr (some pl))), some (.inl i), some (.inl w)] [] G M cb sb := by
  intro n
  induction n with
  | zero =>
    intro w r M cb sb e w0 hC hz h
    obtain rfl : w = 11 := by omega
    refine w_iln rfl ?_
    refine w_bp ?_
    refine w_cmge (fun c1 => ?_) (fun c1 => ?_)
    · skip
      exact h _ _ hC (fun j hj => hz j hj (by omega))
    · exfalso; omega
  | succ n ih =>
    intro w r M cb sb e w0 hC hz h
    refine w_iln rfl ?_
    refine w_bp ?_
    refine w_cmge (fun c1 => ?_) (fun c1 => ?_)
    · exfalso; omega
    · skip
      refine w_aln rfl ?_
      refine w_gr hL.gy hL.hu.2.1 (by decide) rfl (hC.rf hL.y6) ?_
      refine w_iln rfl ?_
      refine w_aald hL.goa hL.hu.2.2.2.2.2.2.1 (by show (0 : Int) ≤ i; omega) (by show i < ((8 : Nat) : Int); omega) (hC.rf (hL.ot _ (by show i.toNat < 8; omega))) ?_
      refine w_iln rfl ?_
      refine w_ic ?_
      refine w_iast (hL.gyr _ (by show i.toNat < 8; omega)) hL.hu.2.2.2.2.2.1 (hL.hu.1 5 (by decide)) (by show (0 : Int) ≤ w; omega) (by show w < ((11 : Nat) : Int); omega) ?_
      have hC2 := hC.pr (w := w.toNat) (v := 0) hL (by show i.toNat < 8; omega)
      refine w_ii rfl ⟨by show (-2147483648 : Int) ≤ w + 1; omega, by show w + 1 < (2147483648 : Int); omega⟩ ?_
      show wz _ _ _ _ [some (.inr (.inr (some y))), some (.inr (.inr (some pl))), some (.inl i), some (.inl (w + 1))] _ _ _ _ _
      refine w_goto ?_
      refine ih (w + 1) _ _ _ _ (by omega) (by omega) hC2 (fun j hj hjw => ?_) h
      by_cases e9 : j = w.toNat
      · rw [e9, rv_up_s]
      · rw [rv_up_n e9]; exact hz j hj (by omega)
theorem r_stO {G : mj_G} {M0 : mj_M} {u : Nat → Nat} {y la lb lc oa pl ta ba wa dl fa sa ca : Nat} {yr tr br : Nat → Nat} {H : Nat → Int} {g A B C : Nat → Int} {Q : mj_P} {d : Nat} (hL : yc_L G M0 u y la lb lc oa yr pl ta ba wa tr br dl fa sa ca H) : ∀ (n : Nat) (i : Int) (z : Option mj_V) (R : Nat → Nat → Int) (M : mj_M) (cb sb : Nat), i + n = 8 → 0 ≤ i → yc_S y la lb lc yr M0 g A B C R M → (∀ s : Nat, s < 8 → (s : Int) < i → ∀ w, w < 11 → R s w = ye_zR H s w) → (∀ M, yc_S y la lb lc yr M0 g A B C (ye_zR H) M → Q none G M) → wz d mt_X10_start.2.2.2.2.1 Q (mt_X10_start.2.2.2.2.1.drop 36) [some (.inr (.inr (some y))), some (.inr (.inr (some pl))), some (.inl i), z] [] G M cb sb := by
  intro n
  induction n with
  | zero =>
    intro i z R M cb sb e i0 hC hz h
    obtain rfl : i = 8 := by omega
    refine w_iln rfl ?_
    refine w_bp ?_
    refine w_cmge (fun c1 => ?_) (fun c1 => ?_)
    · skip
      exact w_ret (h _ (hC.cg (fun _ _ _ => rfl) (fun t w ht hw => hz t ht (by omega) w hw)))
    · exfalso; omega
  | succ n ih =>
    intro i z R M cb sb e i0 hC hz h
    refine w_iln rfl ?_
    refine w_bp ?_
    refine w_cmge (fun c1 => ?_) (fun c1 => ?_)
    · exfalso; omega
    · skip
      refine w_ic ?_
      refine w_isn ?_
      show wz _ _ _ _ [some (.inr (.inr (some y))), some (.inr (.inr (some pl))), some (.inl i), some (.inl 0)] _ _ _ _ _
      refine r_stI (d := d) hL (by omega) 11 0 _ _ _ _ (by decide) (by decide) (hC.op i.toNat) (fun j _ q => by omega) (fun r1 M1 hC1 hz1 => ?_)
      refine w_aln rfl ?_
      refine w_gr hL.gy hL.hu.2.1 (by decide) rfl (hC1.rf hL.y6) ?_
      refine w_iln rfl ?_
      refine w_aald hL.goa hL.hu.2.2.2.2.2.2.1 (by show (0 : Int) ≤ i; omega) (by show i < ((8 : Nat) : Int); omega) (hC1.rf (hL.ot _ (by show i.toNat < 8; omega))) ?_
      refine w_ic ?_
      refine w_aln rfl ?_
      refine w_gr hL.gpl rfl (by decide) rfl (hC1.rf hL.p1) ?_
      refine w_iln rfl ?_
      refine w_aald hL.gta rfl (by show (0 : Int) ≤ i; omega) (by show i < ((8 : Nat) : Int); omega) (hC1.rf (hL.tt _ (by show i.toNat < 8; omega))) ?_
      refine w_ic ?_
      refine w_iald (v := (H (7 + 9 * i.toNat))) (hL.gtr _ (by show i.toNat < 8; omega)) rfl (by show (0 : Int) ≤ 3; omega) (by show 3 < ((9 : Nat) : Int); omega) (((congrFun (hC1.oo hL (hL.gtr _ (by show i.toNat < 8; omega)) (by decide)) _).trans (hL.nt _ 3 (by show i.toNat < 8; omega) (by decide))).trans (congrArg H (show 4 + 9 * i.toNat + 3 = 7 + 9 * i.toNat by omega))) ?_
      refine w_iast (hL.gyr _ (by show i.toNat < 8; omega)) hL.hu.2.2.2.2.2.1 (hL.hu.1 5 (by decide)) (by show (0 : Int) ≤ 1; omega) (by show 1 < ((11 : Nat) : Int); omega) ?_
      have hC2 := hC1.pr (w := (1 : Int).toNat) (v := (H (7 + 9 * i.toNat))) hL (by show i.toNat < 8; omega)
      refine w_ii rfl ⟨by show (-2147483648 : Int) ≤ i + 1; omega, by show i + 1 < (2147483648 : Int); omega⟩ ?_
      show wz _ _ _ _ [some (.inr (.inr (some y))), some (.inr (.inr (some pl))), some (.inl (i + 1)), some (.inl 11)] _ _ _ _ _
      refine w_goto ?_
      refine ih (i + 1) _ _ _ _ _ (by omega) (by omega) hC2 (fun s hs hsi w hw => ?_) h
      by_cases e9 : s = i.toNat
      · subst e9
        rw [ye_ru_s]
        by_cases e8 : w = 1
        · subst e8; exact rv_up_s.trans (if_pos ⟨rfl, hs⟩).symm
        · refine (rv_up_n e8).trans ((hz1 w hw).trans ?_); unfold ye_zR; rw [if_neg (fun q => e8 q.1)]
      · rw [ye_ru_n e9]; exact hz s hs (by omega) w hw
theorem r_X10_start {G : mj_G} {M0 : mj_M} {u : Nat → Nat} {y la lb lc oa pl ta ba wa dl fa sa ca : Nat} {yr tr br : Nat → Nat} {H : Nat → Int} {Q : mj_P} {d : Nat} (hL : yc_L G M0 u y la lb lc oa yr pl ta ba wa tr br dl fa sa ca H) (h : ∀ M1, yc_S y la lb lc yr (mj_p0 M0 y 0 1) (ye_z0 H) (M0.1 la) (M0.1 lb) (M0.1 lc) (ye_zR H) M1 → Q none G M1) : mj_R mj_tab (d + 1) 108 [.inr (.inr (some y)), .inr (.inr (some pl))] G M0 Q := by
  refine ⟨Nat.le_of_ble_eq_true rfl, ?_⟩
  show wz d mt_X10_start.2.2.2.2.1 _ mt_X10_start.2.2.2.2.1 [some (.inr (.inr (some y))), some (.inr (.inr (some pl))), none, none] [] G M0 _ _
  refine w_aln rfl ?_
  refine w_ic ?_
  refine w_pi hL.gy hL.hu.2.1 (hL.hu.1 0 (by decide)) rfl (fun _ => Or.inr rfl) ?_
  have ny : ∀ a t n, G a = (t, n) → (t = 1004 ∨ t = 26100 ∨ t = 28100 ∨ t = 29100 ∨ t = 16100 ∨ t = 17100 ∨ t = 18100) → (mj_p0 M0 y 0 1).1 a = M0.1 a := fun a t n ga ht => wz_c (hn_ne ga hL.gy (fun q => hL.hu.o ht (by decide) q.symm))
  have hL1 := hL.mv (M1 := mj_p0 M0 y 0 1) rfl ny
  have eA : (mj_p0 M0 y 0 1).1 la = M0.1 la := wz_c hL.nya.symm
  have eB : (mj_p0 M0 y 0 1).1 lb = M0.1 lb := wz_c hL.nyb.symm
  have eC : (mj_p0 M0 y 0 1).1 lc = M0.1 lc := wz_c hL.nyc.symm
  rw [← eA, ← eB, ← eC] at h
  clear hL ny eA eB eC
  revert h hL1
  generalize mj_p0 M0 y 0 1 = M1
  intro h hL
  have hC : yc_S y la lb lc yr M1 (fun j => M1.1 y (ye_f j)) (M1.1 la) (M1.1 lb) (M1.1 lc) (fun t => M1.1 (yr t)) M1 := yc_S.re
  revert hC
  generalize (fun j => M1.1 y (ye_f j)) = g
  intro hC
  refine w_aln rfl ?_
  refine w_ic ?_
  refine w_pi hL.gy hL.hu.2.1 (hL.hu.1 0 (by decide)) rfl (fun q => by cases q) ?_
  have hC1 := hC.pf (j := 222) (v := 0) hL (by decide) (by decide) rfl
  refine w_aln rfl ?_
  refine w_ic ?_
  refine w_pi hL.gy hL.hu.2.1 (hL.hu.1 0 (by decide)) rfl (fun q => by cases q) ?_
  have hC2 := hC1.pf (j := 224) (v := 0) hL (by decide) (by decide) rfl
  refine w_aln rfl ?_
  refine w_bp ?_
  refine w_pi hL.gy hL.hu.2.1 (hL.hu.1 0 (by decide)) rfl (fun q => by cases q) ?_
  have hC3 := hC2.pf (j := 223) (v := 8) hL (by decide) (by decide) rfl
  refine w_aln rfl ?_
  refine w_aln rfl ?_
  refine w_gi hL.gpl rfl (by decide) rfl ((congrFun (hC3.oo hL hL.gpl (by decide)) 7).trans hL.n7) ?_
  refine w_pi hL.gy hL.hu.2.1 (hL.hu.1 0 (by decide)) rfl (fun q => by cases q) ?_
  have hC4 := hC3.pf (j := 225) (v := (H 2)) hL (by decide) (by decide) rfl
  refine w_aln rfl ?_
  refine w_ic ?_
  refine w_pi hL.gy hL.hu.2.1 (hL.hu.1 0 (by decide)) rfl (fun q => by cases q) ?_
  have hC5 := hC4.pf (j := 226) (v := 0) hL (by decide) (by decide) rfl
  refine w_aln rfl ?_
  refine w_ic ?_
  refine w_pi hL.gy hL.hu.2.1 (hL.hu.1 0 (by decide)) rfl (fun q => by cases q) ?_
  have hC6 := hC5.pf (j := 227) (v := 0) hL (by decide) (by decide) rfl
  refine w_aln rfl ?_
  refine w_ic ?_
  refine w_pi hL.gy hL.hu.2.1 (hL.hu.1 0 (by decide)) rfl (fun q => by cases q) ?_
  have hC7 := hC6.pf (j := 228) (v := 0) hL (by decide) (by decide) rfl
  refine w_aln rfl ?_
  refine w_ic ?_
  refine w_pi hL.gy hL.hu.2.1 (hL.hu.1 0 (by decide)) rfl (fun q => by cases q) ?_
  have hC8 := hC7.pf (j := 229) (v := 0) hL (by decide) (by decide) rfl
  refine w_aln rfl ?_
  refine w_ic ?_
  refine w_pi hL.gy hL.hu.2.1 (hL.hu.1 0 (by decide)) rfl (fun q => by cases q) ?_
  have hC9 := hC8.pf (j := 230) (v := 0) hL (by decide) (by decide) rfl
  refine w_aln rfl ?_
  refine w_ic ?_
  refine w_pi hL.gy hL.hu.2.1 (hL.hu.1 0 (by decide)) rfl (fun q => by cases q) ?_
  have hC10 := hC9.pf (j := 231) (v := 0) hL (by decide) (by decide) rfl
  refine w_ic ?_
  refine w_isn ?_
  show wz _ _ _ _ [some (.inr (.inr (some y))), some (.inr (.inr (some pl))), some (.inl 0), none] _ _ _ _ _
  refine r_stO (d := d) hL 8 0 _ _ _ _ _ (by decide) (by decide) hC10 (fun s _ q => by omega) (fun M2 hC2 => h M2 (hC2.cg ?_ (fun _ _ _ _ => rfl)))
  refine ye_10 ?_ ?_ ?_ ?_ ?_ ?_ ?_ ?_ ?_ ?_
  · exact ((rv_up_n (by decide)).trans ((rv_up_n (by decide)).trans ((rv_up_n (by decide)).trans ((rv_up_n (by decide)).trans ((rv_up_n (by decide)).trans ((rv_up_n (by decide)).trans ((rv_up_n (by decide)).trans ((rv_up_n (by decide)).trans ((rv_up_n (by decide)).trans (rv_up_s)))))))))).trans (show (0 : Int) = ye_z0 H 222 from rfl)
  · exact ((rv_up_n (by decide)).trans ((rv_up_n (by decide)).trans ((rv_up_n (by decide)).trans ((rv_up_n (by decide)).trans ((rv_up_n (by decide)).trans ((rv_up_n (by decide)).trans ((rv_up_n (by decide)).trans (rv_up_s)))))))).trans (show (8 : Int) = ye_z0 H 223 from rfl)
  · exact ((rv_up_n (by decide)).trans ((rv_up_n (by decide)).trans ((rv_up_n (by decide)).trans ((rv_up_n (by decide)).trans ((rv_up_n (by decide)).trans ((rv_up_n (by decide)).trans ((rv_up_n (by decide)).trans ((rv_up_n (by decide)).trans (rv_up_s))))))))).trans (show (0 : Int) = ye_z0 H 224 from rfl)
  · exact ((rv_up_n (by decide)).trans ((rv_up_n (by decide)).trans ((rv_up_n (by decide)).trans ((rv_up_n (by decide)).trans ((rv_up_n (by decide)).trans ((rv_up_n (by decide)).trans (rv_up_s))))))).trans (show H 2 = ye_z0 H 225 from rfl)
  · exact ((rv_up_n (by decide)).trans ((rv_up_n (by decide)).trans ((rv_up_n (by decide)).trans ((rv_up_n (by decide)).trans ((rv_up_n (by decide)).trans (rv_up_s)))))).trans (show (0 : Int) = ye_z0 H 226 from rfl)
  · exact ((rv_up_n (by decide)).trans ((rv_up_n (by decide)).trans ((rv_up_n (by decide)).trans ((rv_up_n (by decide)).trans (rv_up_s))))).trans (show (0 : Int) = ye_z0 H 227 from rfl)
  · exact ((rv_up_n (by decide)).trans ((rv_up_n (by decide)).trans ((rv_up_n (by decide)).trans (rv_up_s)))).trans (show (0 : Int) = ye_z0 H 228 from rfl)
  · exact ((rv_up_n (by decide)).trans ((rv_up_n (by decide)).trans (rv_up_s))).trans (show (0 : Int) = ye_z0 H 229 from rfl)
  · exact ((rv_up_n (by decide)).trans (rv_up_s)).trans (show (0 : Int) = ye_z0 H 230 from rfl)
  · exact (rv_up_s).trans (show (0 : Int) = ye_z0 H 231 from rfl)
  
abbrev ye_T := (Nat → Int) × (Nat → Int) × (Nat → Int) × (Nat → Int) × (Nat → Nat → Int)
def ye_mo (H : Nat → Int) (x : Int) (s : ye_T) : ye_T := (ye_mg H x s.1 s.2.2.2.2 s.2.1 s.2.2.1, rv_up s.2.1 (s.1 222).toNat (ye_le H s.2.2.2.2 (s.1 222).toNat).1, rv_up s.2.2.1 (s.1 222).toNat (ye_le H s.2.2.2.2 (s.1 222).toNat).2.1, rv_up s.2.2.2.1 (s.1 222).toNat (ye_le H s.2.2.2.2 (s.1 222).toNat).2.2, ye_mR H x s.1 s.2.2.2.2)
def ye_it (H : Nat → Int) (xs : Nat → Int) (s : ye_T) : Nat → ye_T
  | 0 => s
  | k + 1 => ye_mo H (xs k) (ye_it H xs s k)
abbrev ye_okT (H : Nat → Int) (s : ye_T) : Prop := ye_ok H s.1 s.2.1 s.2.2.1 s.2.2.2.1 s.2.2.2.2
/-- to whom the MONTHS done were let, alike -/
def ye_rl (s : ye_T) (A B C : Nat → Int) : Prop := ∀ j : Nat, j < 12 → (j : Int) < s.1 222 → A j = s.2.1 j ∧ B j = s.2.2.1 j ∧ C j = s.2.2.2.1 j
section YI
variable {H g A B C A2 B2 : Nat → Int} {R : Nat → Nat → Int} {x mi : Int} {s : ye_T} {xs : Nat → Int}
theorem ye_mo_okT (hH : ye_H H) (hk : ye_okT H s) (m0 : s.1 222 ≤ 11) (hx : 0 ≤ x ∧ x ≤ 99) : ye_okT H (ye_mo H x s) ∧ (ye_mo H x s).1 222 = s.1 222 + 1 := ye_mo_ok hH hk rfl ⟨hk.1.1, m0⟩ hx
theorem ye_it_ok (hH : ye_H H) (hk : ye_okT H s) (hx : ∀ k, 0 ≤ xs k ∧ xs k ≤ 99) : ∀ k : Nat, s.1 222 + k ≤ 12 → ye_okT H (ye_it H xs s k) ∧ (ye_it H xs s k).1 222 = s.1 222 + k
  | 0, _ => ⟨hk, (Int.add_zero _).symm⟩
  | k + 1, h => by
    have ih := ye_it_ok hH hk hx k (by omega)
    have q := ye_mo_okT (x := xs k) hH ih.1 (by omega) (hx k)
    exact ⟨q.1, by show (ye_mo H (xs k) (ye_it H xs s k)).1 222 = _; omega⟩
theorem ye_mg_c (hm : g 222 = mi) (m0 : 0 ≤ mi ∧ mi ≤ 11) (h : 0 < mi.toNat → A (mi.toNat - 1) = A2 (mi.toNat - 1) ∧ B (mi.toNat - 1) = B2 (mi.toNat - 1)) : ye_mg H x g R A B = ye_mg H x g R A2 B2 := by
  rcases hle : ye_le H R mi.toNat with ⟨L, O, P⟩
  rw [ye_mg_e hm hle, ye_mg_e hm hle]
  have eb : ∀ k, ye_br H A B mi.toNat k = ye_br H A2 B2 mi.toNat k := fun k => by
    unfold ye_br
    by_cases c : 0 < mi.toNat
    · rw [(h c).1, (h c).2]
    · rw [if_neg (fun q : 0 < mi.toNat ∧ _ => c q.1), if_neg (fun q : 0 < mi.toNat ∧ _ => c q.1)]
  have ec : ye_co H g A B mi.toNat L O = ye_co H g A2 B2 mi.toNat L O := by unfold ye_co; rw [eb, eb]
  have e1 : ye_g1 H g A B mi.toNat L O P = ye_g1 H g A2 B2 mi.toNat L O P := by unfold ye_g1; rw [ec]
  rw [e1]
theorem ye_ok.rl (hk : ye_okT H s) (h : ye_rl s A B C) : ye_ok H s.1 A B C s.2.2.2.2 := by
  obtain ⟨k1, k2, k3, k4, k5, k6, k7, k8, k9, k10, k11, k12, k13⟩ := hk
  refine ⟨k1, k2, k3, k4, k5, k6, k7, k8, k9, k10, k11, k12, fun j hj => ?_⟩
  obtain ⟨a, b, c⟩ := h j (by omega) hj
  rw [a, b, c]; exact k13 j hj
end YI
/-- the cells of a YEAR of the class hold s -/
def yc_T (y la lb lc : Nat) (yr : Nat → Nat) (M0 : mj_M) (s : ye_T) (M : mj_M) : Prop := ∃ A B C, yc_S y la lb lc yr M0 s.1 A B C s.2.2.2.2 M ∧ ye_rl s A B C
theorem r_nextT {G : mj_G} {M M0 : mj_M} {u : Nat → Nat} {y la lb lc oa pl ta ba wa dl fa sa ca : Nat} {yr tr br : Nat → Nat} {H : Nat → Int} {s : ye_T} {x : Int} {Q : mj_P} {d : Nat} (hL : yc_L G M0 u y la lb lc oa yr pl ta ba wa tr br dl fa sa ca H) (hT : yc_T y la lb lc yr M0 s M) (hH : ye_H H) (hk : ye_okT H s) (hm : s.1 222 ≤ 11) (hx : 0 ≤ x ∧ x ≤ 99) (h : ∀ M, yc_T y la lb lc yr M0 (ye_mo H x s) M → Q none G M) : mj_R mj_tab (d + 3) 103 [.inr (.inr (some y)), .inr (.inr (some pl)), .inr (.inr (some dl)), .inl x] G M Q := by
  obtain ⟨A, B, C, hC, hr⟩ := hT
  have h0 := hk.1.1
  refine r_X10_nextMonth (mi := s.1 222) hL hC rfl ⟨h0, hm⟩ hH (hk.rl hr) hx (fun A1 B1 C1 M1 eA eB eC hC1 => h M1 ⟨A1, B1, C1, ?_, fun j hj hjm => ?_⟩)
  · have e := ye_mg_c (H := H) (R := s.2.2.2.2) (x := x) (A := A) (B := B) (A2 := s.2.1) (B2 := s.2.2.1) (g := s.1) rfl ⟨h0, hm⟩ (fun c => by
      obtain ⟨a, b, -⟩ := hr ((s.1 222).toNat - 1) (by omega) (by omega)
      exact ⟨a, b⟩)
    rw [e] at hC1
    exact hC1
  · have e22 := (ye_mo_okT (x := x) hH hk hm hx).2
    rw [e22] at hjm
    rw [eA j hj, eB j hj, eC j hj]
    show rv_up A _ _ j = rv_up s.2.1 _ _ j ∧ rv_up B _ _ j = rv_up s.2.2.1 _ _ j ∧ rv_up C _ _ j = rv_up s.2.2.2.1 _ _ j
    by_cases c : j = (s.1 222).toNat
    · rw [c, rv_up_s, rv_up_s, rv_up_s, rv_up_s, rv_up_s, rv_up_s]; exact ⟨rfl, rfl, rfl⟩
    · rw [rv_up_n c, rv_up_n c, rv_up_n c, rv_up_n c, rv_up_n c, rv_up_n c]
      exact hr j hj (by omega)
theorem yc_T.m {y la lb lc : Nat} {yr : Nat → Nat} {M0 M : mj_M} {s : ye_T} (h : yc_T y la lb lc yr M0 s M) : M.1 y 1 = s.1 222 := by
  obtain ⟨A, B, C, hC, -⟩ := h
  exact hC.f (j := 222) (by decide) (by decide) rfl
theorem r_goC {G : mj_G} {M0 : mj_M} {u : Nat → Nat} {y la lb lc oa pl ta ba wa dl fa sa ca : Nat} {yr tr br : Nat → Nat} {H : Nat → Int} {s0 : ye_T} {n : Int} {Q : mj_P} {d : Nat} (hL : yc_L G M0 u y la lb lc oa yr pl ta ba wa tr br dl fa sa ca H) (hH : ye_H H) (hk : ye_okT H s0) (hn : 0 ≤ n ∧ n ≤ 12) {dn : Int} (hd : dn = if n < 12 - s0.1 222 then n else 12 - s0.1 222) : ∀ (f : Nat) (i : Int) (M : mj_M) (cb sb : Nat), i + f = dn → 0 ≤ i → yc_T y la lb lc yr M0 (ye_it H (fun _ => 0) s0 i.toNat) M → (∀ M, yc_T y la lb lc yr M0 (ye_it H (fun _ => 0) s0 dn.toNat) M → Q none G M) → wz (d + 3) mt_X10_goOn.2.2.2.2.1 Q (mt_X10_goOn.2.2.2.2.1.drop 2) [some (.inr (.inr (some y))), some (.inr (.inr (some pl))), some (.inr (.inr (some dl))), some (.inl n), some (.inl i)] [] G M cb sb := by
  have k0 := hk.1
  have hd2 : dn ≤ n ∧ dn ≤ 12 - s0.1 222 ∧ (dn = n ∨ dn = 12 - s0.1 222) := by rw [hd]; split <;> omega
  intro f
  induction f with
  | zero =>
    intro i M cb sb e i0 hT h
    obtain rfl : i = dn := by omega
    have hi2 : (ye_it H (fun _ => 0) s0 i.toNat).1 222 = s0.1 222 + i := by rw [(ye_it_ok hH hk (fun _ => ⟨Int.le_refl 0, by decide⟩) i.toNat (by omega)).2]; omega
    refine w_il rfl ?_
    refine w_iln rfl ?_
    refine w_cmge (fun c1 => ?_) (fun c1 => ?_)
    · skip
      exact w_ret (h _ hT)
    · skip
      refine w_aln rfl ?_
      refine w_gi hL.gy hL.hu.2.1 (by decide) rfl (hT.m.trans hi2) ?_
      refine w_bp ?_
      refine w_cmge (fun c2 => ?_) (fun c2 => ?_)
      · skip
        exact w_ret (h _ hT)
      · exfalso; omega
  | succ f ih =>
    intro i M cb sb e i0 hT h
    have hok := ye_it_ok hH hk (xs := fun _ => 0) (fun _ => ⟨Int.le_refl 0, by decide⟩) i.toNat (by omega)
    have hi2 : (ye_it H (fun _ => 0) s0 i.toNat).1 222 = s0.1 222 + i := by rw [hok.2]; omega
    have et : (i + 1).toNat = i.toNat + 1 := by omega
    refine w_il rfl ?_
    refine w_iln rfl ?_
    refine w_cmge (fun c1 => ?_) (fun c1 => ?_)
    · exfalso; omega
    · skip
      refine w_aln rfl ?_
      refine w_gi hL.gy hL.hu.2.1 (by decide) rfl (hT.m.trans hi2) ?_
      refine w_bp ?_
      refine w_cmge (fun c2 => ?_) (fun c2 => ?_)
      · exfalso; omega
      · skip
        refine w_aln rfl ?_
        refine w_aln rfl ?_
        refine w_aln rfl ?_
        refine w_ic ?_
        refine w_cv (st := []) rfl hL.gy hL.hu.2.1 (Nat.le_of_ble_eq_true rfl) (fun kk h => h) (r_nextT (d := d) hL hT hH hok.1 (by omega) ⟨Int.le_refl 0, by decide⟩ (fun M1 hT1 => ?_))
        refine w_ii rfl ⟨by show (-2147483648 : Int) ≤ i + 1; omega, by show i + 1 < (2147483648 : Int); omega⟩ ?_
        show wz _ _ _ _ [some (.inr (.inr (some y))), some (.inr (.inr (some pl))), some (.inr (.inr (some dl))), some (.inl n), some (.inl (i + 1))] _ _ _ _ _
        refine w_goto ?_
        exact ih (i + 1) _ _ _ (by omega) (by omega) (by rw [et]; exact hT1) h
theorem r_X10_goOn {G : mj_G} {M M0 : mj_M} {u : Nat → Nat} {y la lb lc oa pl ta ba wa dl fa sa ca : Nat} {yr tr br : Nat → Nat} {H : Nat → Int} {s0 : ye_T} {n : Int} {Q : mj_P} {d : Nat} (hL : yc_L G M0 u y la lb lc oa yr pl ta ba wa tr br dl fa sa ca H) (hT : yc_T y la lb lc yr M0 s0 M) (hH : ye_H H) (hk : ye_okT H s0) (hn : 0 ≤ n ∧ n ≤ 12) {dn : Int} (hd : dn = if n < 12 - s0.1 222 then n else 12 - s0.1 222) (h : ∀ M, yc_T y la lb lc yr M0 (ye_it H (fun _ => 0) s0 dn.toNat) M → Q none G M) : mj_R mj_tab (d + 4) 93 [.inr (.inr (some y)), .inr (.inr (some pl)), .inr (.inr (some dl)), .inl n] G M Q := by
  have k0 := hk.1
  have hd2 : 0 ≤ dn := by rw [hd]; split <;> omega
  refine ⟨Nat.le_of_ble_eq_true rfl, ?_⟩
  show wz (d + 3) mt_X10_goOn.2.2.2.2.1 _ mt_X10_goOn.2.2.2.2.1 [some (.inr (.inr (some y))), some (.inr (.inr (some pl))), some (.inr (.inr (some dl))), some (.inl n), none] [] G M _ _
  refine w_ic ?_
  refine w_is ?_
  show wz _ _ _ _ [some (.inr (.inr (some y))), some (.inr (.inr (some pl))), some (.inr (.inr (some dl))), some (.inl n), some (.inl 0)] _ _ _ _ _
  exact r_goC (d := d) hL hH hk hn hd dn.toNat 0 _ _ _ (by omega) (by decide) hT h
end
section
/-! ===== YEARS of the reference: begun, whole; what is kept meanwhile (laid by a program) ===== -/
section YI
variable {G : mj_G} {M M0 M1 M2 M' : mj_M} {s m bf : Nat} {H g A B C : Nat → Int} {R : Nat → Nat → Int} {L O P z : Int} {st : ye_T} {k : Nat}
theorem yq_S.re : yq_S s m M (M.1 s) (fun j => M.1 s (320 + 3 * j)) (fun j => M.1 s (321 + 3 * j)) (fun j => M.1 s (322 + 3 * j)) (fun t w => M.1 s (232 + 11 * t + w)) (M.1 m 29) (M.1 m 30) (M.1 m 31) M := ⟨rfl, fun _ _ _ => rfl, fun _ _ _ _ => rfl, ⟨rfl, rfl, rfl⟩, fun _ _ => rfl, fun _ _ _ => rfl, fun _ _ => ⟨rfl, rfl, rfl⟩, fun _ _ _ _ => rfl⟩
/-- s holds the YEAR st -/
def yq_T (s m : Nat) (M0 : mj_M) (st : ye_T) (M : mj_M) : Prop := ∃ L O P, yq_S s m M0 st.1 st.2.1 st.2.2.1 st.2.2.2.1 st.2.2.2.2 L O P M
/-- the seed alone is another one: base and memory alike -/
theorem yq_S.rb (h : yq_S s m M0 g A B C R L O P M) (hL : yq_L G M0 s m H) : yq_S s m (mj_p0 M0 m 47 z) g A B C R L O P (mj_p0 M m 47 z) := by
  obtain ⟨h1, h2, h3, ⟨b1, b2, b3⟩, h5, h6, h7, h8⟩ := h
  have e : (mj_p0 M m 47 z).1 s = M.1 s := wz_c hL.sm
  refine ⟨h1, fun a a1 a2 => (wz_c a2).trans ((h2 a a1 a2).trans (wz_c a2).symm), fun k k1 k2 k3 => ?_, ⟨(hn_n (Or.inr (by decide))).trans b1, (hn_n (Or.inr (by decide))).trans b2, (hn_n (Or.inr (by decide))).trans b3⟩, ?_, by rw [e]; exact h6, by rw [e]; exact h7, by rw [e]; exact h8⟩
  · by_cases c : k = 47
    · subst c; exact hn_s.trans hn_s.symm
    · exact (hn_n (Or.inr c)).trans ((h3 k k1 k2 k3).trans (hn_n (Or.inr c)).symm)
  · rw [e, show (mj_p0 M0 m 47 z).1 s = M0.1 s from wz_c hL.sm]; exact h5
theorem yq_L.sd (h : yq_L G M0 s m H) : yq_L G (mj_p0 M0 m 47 z) s m H := ⟨h.1, h.2.1, h.2.2.1, fun j hj => (congrFun (wz_c h.sm) j).trans (h.2.2.2.1 j hj), (hn_n (Or.inr (by decide))).trans h.2.2.2.2⟩
theorem mj_p47 {a b : Int} : mj_p0 (mj_p0 M m 47 a) m 47 b = mj_p0 M m 47 b := by
  have e : (mj_p0 (mj_p0 M m 47 a) m 47 b).1 = (mj_p0 M m 47 b).1 := funext fun x => funext fun j => by
    show (if x = m ∧ j = 47 then b else if x = m ∧ j = 47 then a else M.1 x j) = (if x = m ∧ j = 47 then b else M.1 x j)
    by_cases c : x = m ∧ j = 47
    · rw [if_pos c, if_pos c]
    · rw [if_neg c, if_neg c, if_neg c]
  show ((mj_p0 (mj_p0 M m 47 a) m 47 b).1, M.2) = ((mj_p0 M m 47 b).1, M.2)
  rw [e]
/-- a YEAR as it begins -/
def ye_fr (H : Nat → Int) : ye_T := (ye_z0 H, fun _ => 0, fun _ => 0, fun _ => 0, ye_zR H)
def ye_H2 (H : Nat → Int) : Prop := ye_H H ∧ ∀ t : Nat, t < 8 → H 0 ≤ (t : Int) → H (7 + 9 * t) = 0
theorem ye_fr_ok (h : ye_H2 H) : ye_okT H (ye_fr H) ∧ (ye_fr H).1 222 = 0 := by
  obtain ⟨⟨h0, h1, h2, h3, hT, hw, hB, hd⟩, hz⟩ := h
  refine ⟨⟨⟨Int.le_refl 0, (by decide : (0 : Int) ≤ 12)⟩, Or.inl rfl, ⟨Int.le_refl 0, Int.le_refl 0⟩, h2, ⟨Int.le_refl 0, Int.le_refl 0⟩, ⟨Int.le_refl 0, Int.le_refl 0⟩, ⟨Int.le_refl 0, Int.le_refl 0⟩, ⟨Int.le_refl 0, Int.le_refl 0⟩, ⟨Int.le_refl 0, Int.le_refl 0⟩, ⟨Int.le_refl 0, Int.le_refl 0⟩, fun t ht => ?_, fun t ht hn w hw => ?_, fun j hj => ?_⟩, rfl⟩
  · have q7 := hT (7 + 9 * t) (by omega) (by omega)
    have q5 := hT (5 + 9 * t) (by omega) (by omega)
    have e : ∀ w, w ≠ 1 → (ye_fr H).2.2.2.2 t w = 0 := fun w hw => if_neg (fun q => hw q.1)
    have e1 : (ye_fr H).2.2.2.2 t 1 = H (7 + 9 * t) := by
      show (if (1 : Nat) = 1 ∧ t < 8 then H (7 + 9 * t) else 0) = H (7 + 9 * t)
      exact if_pos ⟨rfl, ht⟩
    have e2 : (ye_fr H).1 222 = 0 := rfl
    unfold ye_rk
    rw [e 0 (by decide), e1, e 2 (by decide), e 3 (by decide), e 4 (by decide), e 5 (by decide), e 6 (by decide), e 7 (by decide), e 8 (by decide), e 9 (by decide), e 10 (by decide), e2]
    omega
  · show (if w = 1 ∧ t < 8 then H (7 + 9 * t) else 0) = 0
    by_cases c : w = 1 ∧ t < 8
    · rw [if_pos c]; exact hz t ht hn
    · rw [if_neg c]
  · have e2 : (ye_fr H).1 222 = 0 := rfl
    rw [e2] at hj; omega
/-- what begins leaves -/
def rq_Z (s : Nat) (H : Nat → Int) (M M' : mj_M) : Prop := M'.2 = M.2 ∧ (∀ a, a ≠ s → M'.1 a = M.1 a) ∧ (∀ j, j < 221 ∨ (356 ≤ j ∧ j < 537) → M'.1 s j = M.1 s j) ∧ M'.1 s 221 = 1 ∧ (∀ j, 222 ≤ j → j < 232 → M'.1 s j = ye_z0 H j) ∧ (∀ j, j < 12 → M'.1 s (320 + 3 * j) = 0 ∧ M'.1 s (321 + 3 * j) = 0 ∧ M'.1 s (322 + 3 * j) = 0) ∧ (∀ t w, t < 8 → w < 11 → M'.1 s (232 + 11 * t + w) = ye_zR H t w)
theorem rq_Z.T (h : rq_Z s H M M') : yq_T s m M' (ye_fr H) M' := by
  obtain ⟨-, -, -, -, h5, h6, h7⟩ := h
  exact ⟨_, _, _, rfl, fun _ _ _ => rfl, fun _ _ _ _ => rfl, ⟨rfl, rfl, rfl⟩, fun _ _ => rfl, h5, h6, h7⟩
/-- what a whole YEAR leaves -/
def rq_Y (s m : Nat) (st : ye_T) (M M' : mj_M) : Prop := M'.2 = M.2 ∧ (∀ a, a ≠ s → a ≠ m → M'.1 a = M.1 a) ∧ (∀ k, k ≠ 29 → k ≠ 30 → k ≠ 31 → k ≠ 47 → M'.1 m k = M.1 m k) ∧ (∀ j, j < 221 ∨ (356 ≤ j ∧ j < 537) → M'.1 s j = M.1 s j) ∧ M'.1 s 221 = 1 ∧ (∀ j, 222 ≤ j → j < 232 → M'.1 s j = st.1 j) ∧ (∀ j, j < 12 → M'.1 s (320 + 3 * j) = st.2.1 j ∧ M'.1 s (321 + 3 * j) = st.2.2.1 j ∧ M'.1 s (322 + 3 * j) = st.2.2.2.1 j) ∧ (∀ t w, t < 8 → w < 11 → M'.1 s (232 + 11 * t + w) = st.2.2.2.2 t w)
end YI
theorem r_bg1 {G : mj_G} {M0 : mj_M} {s m : Nat} {H : Nat → Int} {Q : mj_P} {d : Nat} (gm : G m = (1012, 0)) (gs : G s = (51100, 537)) (m6 : M0.2.2 m 6 = some s) (hH : ∀ j, j < 221 → M0.1 s j = H j) : ∀ (n : Nat) (i : Int) (SF : Nat → Int) (M : mj_M) (cb sb : Nat), i + n = 356 → 221 ≤ i → tk_R s M0 SF M → (∀ k : Nat, k < 537 → (k < 221 ∨ i ≤ (k : Int) → SF k = M0.1 s k) ∧ (221 ≤ k ∧ (k : Int) < i → SF k = 0)) → (∀ SF M, tk_R s M0 SF M → (∀ k, k < 537 → (k < 221 ∨ 356 ≤ k → SF k = M0.1 s k) ∧ (221 ≤ k ∧ k < 356 → SF k = 0)) → wz (d + 1) mt_X12_begins.2.2.2.2.1 Q (mt_X12_begins.2.2.2.2.1.drop 12) [some (.inr (.inr (some m))), some (.inl 356)] [] G M cb sb) → wz (d + 1) mt_X12_begins.2.2.2.2.1 Q (mt_X12_begins.2.2.2.2.1.drop 2) [some (.inr (.inr (some m))), some (.inl i)] [] G M cb sb := by
  intro n
  induction n with
  | zero =>
    intro i SF M cb sb e i0 hC hz h
    obtain rfl : i = 356 := by omega
    refine w_iln rfl ?_
    refine w_sp ?_
    refine w_cmge (fun c1 => ?_) (fun c1 => ?_)
    · skip
      exact h SF _ hC (fun k hk => ⟨fun q => (hz k hk).1 (by omega), fun q => (hz k hk).2 (by omega)⟩)
    · exfalso; omega
  | succ n ih =>
    intro i SF M cb sb e i0 hC hz h
    refine w_iln rfl ?_
    refine w_sp ?_
    refine w_cmge (fun c1 => ?_) (fun c1 => ?_)
    · exfalso; omega
    · skip
      refine w_aln rfl ?_
      refine w_gr gm rfl (by decide) rfl (hC.r (m6)) ?_
      refine w_iln rfl ?_
      refine w_ic ?_
      refine w_iast gs rfl (by decide) (by show (0 : Int) ≤ i; omega) (by show i < ((537 : Nat) : Int); omega) ?_
      have hC2 := hC.hW (j := i.toNat) (z := 0) rfl
      refine w_ii rfl ⟨by show (-2147483648 : Int) ≤ i + 1; omega, by show i + 1 < (2147483648 : Int); omega⟩ ?_
      show wz _ _ _ _ [some (.inr (.inr (some m))), some (.inl (i + 1))] _ _ _ _ _
      refine w_goto ?_
      refine ih (i + 1) _ _ _ _ (by omega) (by omega) hC2 (fun k hk => ?_) h
      by_cases e9 : k = i.toNat
      · exact ⟨fun q => by omega, fun _ => by rw [e9]; exact rv_up_s⟩
      · rw [rv_up_n e9]; exact ⟨fun q => (hz k hk).1 (by omega), fun q => (hz k hk).2 (by omega)⟩
theorem r_bg2 {G : mj_G} {M0 : mj_M} {s m : Nat} {H : Nat → Int} {Q : mj_P} {d : Nat} (gm : G m = (1012, 0)) (gs : G s = (51100, 537)) (m6 : M0.2.2 m 6 = some s) (hH : ∀ j, j < 221 → M0.1 s j = H j) (h0 : 0 ≤ H 0 ∧ H 0 ≤ 8) : ∀ (n : Nat) (i : Int) (SF : Nat → Int) (M : mj_M) (cb sb : Nat), i + n = H 0 → 0 ≤ i → tk_R s M0 SF M → (∀ k, k < 537 → (k < 221 ∨ 356 ≤ k → SF k = M0.1 s k)) → SF 221 = 1 → (∀ j, 222 ≤ j → j < 232 → SF j = ye_z0 H j) → (∀ j, j < 36 → SF (320 + j) = 0) → (∀ t w, t < 8 → w < 11 → SF (232 + 11 * t + w) = if w = 1 ∧ (t : Int) < i then H (7 + 9 * t) else 0) → (∀ SF M, tk_R s M0 SF M → (∀ k, k < 537 → (k < 221 ∨ 356 ≤ k → SF k = M0.1 s k)) → SF 221 = 1 → (∀ j, 222 ≤ j → j < 232 → SF j = ye_z0 H j) → (∀ j, j < 36 → SF (320 + j) = 0) → (∀ t w, t < 8 → w < 11 → SF (232 + 11 * t + w) = if w = 1 ∧ (t : Int) < H 0 then H (7 + 9 * t) else 0) → Q none G M) → wz (d + 1) mt_X12_begins.2.2.2.2.1 Q (mt_X12_begins.2.2.2.2.1.drop 32) [some (.inr (.inr (some m))), some (.inl i)] [] G M cb sb := by
  intro n
  induction n with
  | zero =>
    intro i SF M cb sb e i0 hC z1 z2 z3 z4 z5 h
    obtain rfl : i = H 0 := by omega
    have rd : ∀ {j k : Nat}, k < 221 → j = k → M.1 s j = H k := fun {j k} hk e => by rw [e]; exact (hC.2.2 k (by omega)).trans ((z1 k (by omega) (Or.inl hk)).trans (hH k hk))
    refine w_iln rfl ?_
    refine w_aln rfl ?_
    refine w_gr gm rfl (by decide) rfl (hC.r (m6)) ?_
    refine w_ic ?_
    refine w_iald (v := (H 0)) gs rfl (by show (0 : Int) ≤ 0; omega) (by show 0 < ((537 : Nat) : Int); omega) (rd (show 0 < 221 by omega) (show (0 : Int).toNat = 0 by omega)) ?_
    refine w_cmge (fun c1 => ?_) (fun c1 => ?_)
    · skip
      exact w_ret (h SF _ hC z1 z2 z3 z4 z5)
    · exfalso; omega
  | succ n ih =>
    intro i SF M cb sb e i0 hC z1 z2 z3 z4 z5 h
    have rd : ∀ {j k : Nat}, k < 221 → j = k → M.1 s j = H k := fun {j k} hk e => by rw [e]; exact (hC.2.2 k (by omega)).trans ((z1 k (by omega) (Or.inl hk)).trans (hH k hk))
    refine w_iln rfl ?_
    refine w_aln rfl ?_
    refine w_gr gm rfl (by decide) rfl (hC.r (m6)) ?_
    refine w_ic ?_
    refine w_iald (v := (H 0)) gs rfl (by show (0 : Int) ≤ 0; omega) (by show 0 < ((537 : Nat) : Int); omega) (rd (show 0 < 221 by omega) (show (0 : Int).toNat = 0 by omega)) ?_
    refine w_cmge (fun c1 => ?_) (fun c1 => ?_)
    · exfalso; omega
    · skip
      refine w_aln rfl ?_
      refine w_gr gm rfl (by decide) rfl (hC.r (m6)) ?_
      refine w_sp ?_
      refine w_bp ?_
      refine w_iln rfl ?_
      refine w_mul ⟨by show (-2147483648 : Int) ≤ 11 * i; omega, by show 11 * i < (2147483648 : Int); omega⟩ ?_
      refine w_add ⟨by show (-2147483648 : Int) ≤ 232 + (11 * i); omega, by show 232 + (11 * i) < (2147483648 : Int); omega⟩ ?_
      refine w_ic ?_
      refine w_add ⟨by show (-2147483648 : Int) ≤ (232 + (11 * i)) + 1; omega, by show (232 + (11 * i)) + 1 < (2147483648 : Int); omega⟩ ?_
      refine w_aln rfl ?_
      refine w_iln rfl ?_
      refine w_ic ?_
      refine w_cv (st := [.inl ((232 + (11 * i)) + 1), .inr (.inr (some s))]) rfl gm rfl (Nat.le_of_ble_eq_true rfl) (fun kk h => h) ⟨Nat.le_of_ble_eq_true rfl, ?_⟩
      show wz (d) mt_X12_toldOf.2.2.2.2.1 _ mt_X12_toldOf.2.2.2.2.1 [some (.inr (.inr (some m))), some (.inl i), some (.inl 3)] [] _ _ _ _
      refine w_aln rfl ?_
      refine w_gr gm rfl (by decide) rfl (hC.r (m6)) ?_
      refine w_ic ?_
      refine w_bp ?_
      refine w_iln rfl ?_
      refine w_mul ⟨by show (-2147483648 : Int) ≤ 9 * i; omega, by show 9 * i < (2147483648 : Int); omega⟩ ?_
      refine w_add ⟨by show (-2147483648 : Int) ≤ 4 + (9 * i); omega, by show 4 + (9 * i) < (2147483648 : Int); omega⟩ ?_
      refine w_iln rfl ?_
      refine w_add ⟨by show (-2147483648 : Int) ≤ (4 + (9 * i)) + 3; omega, by show (4 + (9 * i)) + 3 < (2147483648 : Int); omega⟩ ?_
      refine w_iald (v := (H (7 + 9 * i.toNat))) gs rfl (by show (0 : Int) ≤ (4 + (9 * i)) + 3; omega) (by show (4 + (9 * i)) + 3 < ((537 : Nat) : Int); omega) (rd (show 7 + 9 * i.toNat < 221 by omega) (show ((4 + (9 * i)) + 3).toNat = 7 + 9 * i.toNat by omega)) ?_
      refine w_iret (fun q => by cases q) ?_
      refine w_iast gs rfl (by decide) (by show (0 : Int) ≤ (232 + (11 * i)) + 1; omega) (by show (232 + (11 * i)) + 1 < ((537 : Nat) : Int); omega) ?_
      have hC2 := hC.hW (j := ((232 + (11 * i)) + 1).toNat) (z := (H (7 + 9 * i.toNat))) rfl
      refine w_ii rfl ⟨by show (-2147483648 : Int) ≤ i + 1; omega, by show i + 1 < (2147483648 : Int); omega⟩ ?_
      show wz _ _ _ _ [some (.inr (.inr (some m))), some (.inl (i + 1))] _ _ _ _ _
      refine w_goto ?_
      refine ih (i + 1) _ _ _ _ (by omega) (by omega) hC2 (fun k hk q => (rv_up_n (by omega)).trans (z1 k hk q)) ((rv_up_n (by omega)).trans z2) (fun j j1 j2 => (rv_up_n (by omega)).trans (z3 j j1 j2)) (fun j hj => (rv_up_n (by omega)).trans (z4 j hj)) (fun t w ht hw => ?_) h
      by_cases e9 : w = 1 ∧ t = i.toNat
      · obtain ⟨rfl, rfl⟩ := e9
        rw [if_pos ⟨rfl, by omega⟩]
        exact tk_up (by omega)
      · refine (rv_up_n (by omega)).trans ((z5 t w ht hw).trans ?_)
        by_cases e8 : w = 1 ∧ (t : Int) < i
        · rw [if_pos e8, if_pos ⟨e8.1, by omega⟩]
        · rw [if_neg e8, if_neg (fun q => e8 ⟨q.1, by omega⟩)]
theorem r_X12_beginsC {G : mj_G} {M0 : mj_M} {s m : Nat} {H : Nat → Int} {Q : mj_P} {d : Nat} (gm : G m = (1012, 0)) (gs : G s = (51100, 537)) (m6 : M0.2.2 m 6 = some s) (hH : ∀ j, j < 221 → M0.1 s j = H j) (h0 : 0 ≤ H 0 ∧ H 0 ≤ 8) (hz : ∀ t : Nat, t < 8 → H 0 ≤ (t : Int) → H (7 + 9 * t) = 0) (h : ∀ M, rq_Z s H M0 M → Q none G M) : mj_R mj_tab (d + 2) 163 [.inr (.inr (some m))] G M0 Q := by
  refine ⟨Nat.le_of_ble_eq_true rfl, ?_⟩
  show wz (d + 1) mt_X12_begins.2.2.2.2.1 _ mt_X12_begins.2.2.2.2.1 [some (.inr (.inr (some m))), none] [] G M0 _ _
  refine w_sp ?_
  refine w_isn ?_
  show wz _ _ _ _ [some (.inr (.inr (some m))), some (.inl 221)] _ _ _ _ _
  refine r_bg1 (d := d) gm gs m6 hH 135 221 (M0.1 s) M0 _ _ (by decide) (by decide) ⟨rfl, fun _ _ => rfl, fun _ _ => rfl⟩ (fun k hk => ⟨fun _ => rfl, fun q => by omega⟩) (fun SF M hC hz1 => ?_)
  have rd : ∀ {j k : Nat}, k < 221 → j = k → M.1 s j = H k := fun {j k} hk e => by rw [e]; exact (hC.2.2 k (by omega)).trans (((hz1 k (by omega)).1 (Or.inl hk)).trans (hH k hk))
  refine w_aln rfl ?_
  refine w_gr gm rfl (by decide) rfl (hC.r (m6)) ?_
  refine w_sp ?_
  refine w_ic ?_
  refine w_iast gs rfl (by decide) (by show (0 : Int) ≤ 221; omega) (by show 221 < ((537 : Nat) : Int); omega) ?_
  have hC1 := hC.hW (j := (221 : Int).toNat) (z := 1) rfl
  refine w_aln rfl ?_
  refine w_gr gm rfl (by decide) rfl (hC1.r (m6)) ?_
  refine w_sp ?_
  refine w_bp ?_
  refine w_iast gs rfl (by decide) (by show (0 : Int) ≤ 223; omega) (by show 223 < ((537 : Nat) : Int); omega) ?_
  have hC2 := hC1.hW (j := (223 : Int).toNat) (z := 8) rfl
  refine w_aln rfl ?_
  refine w_gr gm rfl (by decide) rfl (hC2.r (m6)) ?_
  refine w_sp ?_
  refine w_aln rfl ?_
  refine w_gr gm rfl (by decide) rfl (hC2.r (m6)) ?_
  refine w_ic ?_
  refine w_iald (v := (H 2)) gs rfl (by show (0 : Int) ≤ 2; omega) (by show 2 < ((537 : Nat) : Int); omega) ((hn_n (Or.inr (by omega))).trans ((hn_n (Or.inr (by omega))).trans (rd (show 2 < 221 by omega) (show (2 : Int).toNat = 2 by omega)))) ?_
  refine w_iast gs rfl (by decide) (by show (0 : Int) ≤ 225; omega) (by show 225 < ((537 : Nat) : Int); omega) ?_
  have hC3 := hC2.hW (j := (225 : Int).toNat) (z := (H 2)) rfl
  refine w_ic ?_
  refine w_isn ?_
  show wz _ _ _ _ [some (.inr (.inr (some m))), some (.inl 0)] _ _ _ _ _
  refine r_bg2 (d := d) gm gs m6 hH h0 (H 0).toNat 0 _ _ _ _ (by omega) (by decide) hC3 (fun k hk q => ?_) ?_ ?_ (fun j hj => ?_) (fun t w ht hw => ?_) (fun SF9 M9 hC9 y1 y2 y3 y4 y5 => h M9 ⟨hC9.1, hC9.2.1, fun j hj => (hC9.2.2 j (by omega)).trans (y1 j (by omega) (by omega)), (hC9.2.2 221 (by decide)).trans y2, fun j j1 j2 => (hC9.2.2 j (by omega)).trans (y3 j j1 j2), fun j hj => ⟨(hC9.2.2 _ (by omega)).trans (y4 (3 * j) (by omega)), ?_, ?_⟩, fun t w ht hw => ?_⟩)
  · exact (rv_up_n (by omega)).trans ((rv_up_n (by omega)).trans ((rv_up_n (by omega)).trans ((hz1 k hk).1 q)))
  · exact (rv_up_n (by decide)).trans ((rv_up_n (by decide)).trans rv_up_s)
  · refine ye_10 ?_ ?_ ?_ ?_ ?_ ?_ ?_ ?_ ?_ ?_
    · exact (rv_up_n (by decide)).trans ((rv_up_n (by decide)).trans ((rv_up_n (by decide)).trans ((hz1 222 (by decide)).2 (by decide))))
    · exact (rv_up_n (by decide)).trans rv_up_s
    · exact (rv_up_n (by decide)).trans ((rv_up_n (by decide)).trans ((rv_up_n (by decide)).trans ((hz1 224 (by decide)).2 (by decide))))
    · exact rv_up_s
    · exact (rv_up_n (by decide)).trans ((rv_up_n (by decide)).trans ((rv_up_n (by decide)).trans ((hz1 226 (by decide)).2 (by decide))))
    · exact (rv_up_n (by decide)).trans ((rv_up_n (by decide)).trans ((rv_up_n (by decide)).trans ((hz1 227 (by decide)).2 (by decide))))
    · exact (rv_up_n (by decide)).trans ((rv_up_n (by decide)).trans ((rv_up_n (by decide)).trans ((hz1 228 (by decide)).2 (by decide))))
    · exact (rv_up_n (by decide)).trans ((rv_up_n (by decide)).trans ((rv_up_n (by decide)).trans ((hz1 229 (by decide)).2 (by decide))))
    · exact (rv_up_n (by decide)).trans ((rv_up_n (by decide)).trans ((rv_up_n (by decide)).trans ((hz1 230 (by decide)).2 (by decide))))
    · exact (rv_up_n (by decide)).trans ((rv_up_n (by decide)).trans ((rv_up_n (by decide)).trans ((hz1 231 (by decide)).2 (by decide))))
  · exact (rv_up_n (by omega)).trans ((rv_up_n (by omega)).trans ((rv_up_n (by omega)).trans ((hz1 _ (by omega)).2 (by omega))))
  · rw [if_neg (by omega)]; exact (rv_up_n (by omega)).trans ((rv_up_n (by omega)).trans ((rv_up_n (by omega)).trans ((hz1 _ (by omega)).2 (by omega))))
  · have q := y4 (1 + 3 * j) (by omega); rw [show 320 + (1 + 3 * j) = 321 + 3 * j by omega] at q; exact (hC9.2.2 _ (by omega)).trans q
  · have q := y4 (2 + 3 * j) (by omega); rw [show 320 + (2 + 3 * j) = 322 + 3 * j by omega] at q; exact (hC9.2.2 _ (by omega)).trans q
  · refine (hC9.2.2 _ (by omega)).trans ((y5 t w ht hw).trans ?_)
    unfold ye_zR
    by_cases c : w = 1
    · by_cases c2 : (t : Int) < H 0
      · rw [if_pos ⟨c, c2⟩, if_pos ⟨c, ht⟩]
      · rw [if_neg (fun q => c2 q.2), if_pos ⟨c, ht⟩]; exact (hz t ht (by omega)).symm
    · rw [if_neg (fun q => c q.1), if_neg (fun q => c q.1)]
theorem r_monthT {G : mj_G} {M M0 : mj_M} {s m : Nat} {H : Nat → Int} {st : ye_T} {x : Int} {Q : mj_P} {d : Nat} (hL : yq_L G M0 s m H) (hT : yq_T s m M0 st M) (hH : ye_H H) (hk : ye_okT H st) (hm : st.1 222 ≤ 11) (hx : 0 ≤ x ∧ x ≤ 99) (h : ∀ M, yq_T s m M0 (ye_mo H x st) M → Q none G M) : mj_R mj_tab (d + 4) 213 [.inr (.inr (some m)), .inl x] G M Q := by
  obtain ⟨L, O, P, hC⟩ := hT
  refine r_X12_month (mi := st.1 222) hL hC rfl ⟨hk.1.1, hm⟩ hH hk hx (fun L1 O1 P1 M1 e hC1 => h M1 ⟨L1, O1, P1, ?_⟩)
  have e1 : L1 = (ye_le H st.2.2.2.2 (st.1 222).toNat).1 := congrArg Prod.fst e
  have e2 : O1 = (ye_le H st.2.2.2.2 (st.1 222).toNat).2.1 := congrArg (fun q => q.2.1) e
  have e3 : P1 = (ye_le H st.2.2.2.2 (st.1 222).toNat).2.2 := congrArg (fun q => q.2.2) e
  show yq_S s m M0 _ (rv_up st.2.1 _ _) (rv_up st.2.2.1 _ _) (rv_up st.2.2.2.1 _ _) _ L1 O1 P1 M1
  rw [← e1, ← e2, ← e3]
  exact hC1
/-- the seed goes on; a draw of 100 -/
def ye_s1 (x : Int) : Int := (Int32.ofInt (Int32.ofInt x * Int32.ofInt 1103515245).toInt + Int32.ofInt 12345).toInt
def ye_sd (x : Int) : Nat → Int
  | 0 => x
  | k + 1 => ye_s1 (ye_sd x k)
theorem ye_sd_s {x : Int} {k : Nat} : ye_sd x (k + 1) = ye_s1 (ye_sd x k) := rfl
def ye_dr (x : Int) : Int := (Int32.ofInt (rv_s7 x 8) - Int32.ofInt (rv_s7 x 8) / Int32.ofInt 100 * Int32.ofInt 100).toInt
def ye_xs (x : Int) (k : Nat) : Int := ye_dr (ye_sd x (k + 1))
theorem ye_s7_b (x : Int) : 0 ≤ rv_s7 x 8 ∧ rv_s7 x 8 < 16777216 := by
  have h := pk_ushr (Int32.ofInt x) (Int32.ofInt 8) 8 (by decide)
  have hb : (Int32.ofInt x).toBitVec.toNat / 2 ^ 8 < 16777216 := by
    have := (Int32.ofInt x).toBitVec.isLt
    omega
  unfold rv_s7
  have e : (((Int32.ofInt x).toUInt32 >>> ((Int32.ofInt 8).toUInt32 &&& Int32.toUInt32 31)).toInt32).toInt = ((((Int32.ofInt x).toUInt32 >>> ((Int32.ofInt 8).toUInt32 &&& Int32.toUInt32 31)).toInt32).toBitVec.toNat : Int) := by
    show (((Int32.ofInt x).toUInt32 >>> ((Int32.ofInt 8).toUInt32 &&& Int32.toUInt32 31)).toInt32).toBitVec.toInt = _
    rw [BitVec.toInt_eq_toNat_of_lt (by rw [h]; omega)]
  rw [e, h]
  omega
theorem ye_dr_b (x : Int) : 0 ≤ ye_dr x ∧ ye_dr x ≤ 99 := by
  have b := ye_s7_b x
  have h := cs_irem (x := rv_s7 x 8) (t := 100) (z := ye_dr x) b.1 (by decide) ⟨by omega, by omega⟩ ⟨by decide, by decide⟩ rfl
  have e : ((100 : Int).toNat) = 100 := rfl
  rw [e] at h
  omega
section YT
variable {G : mj_G} {M M0 : mj_M} {s m : Nat} {H : Nat → Int} {st : ye_T} {z : Int} {a b k : Nat}
theorem yq_T.rf (h : yq_T s m M0 st M) (e : M0.2.2 a k = some b) : M.2.2 a k = some b := by
  obtain ⟨L, O, P, hC⟩ := h; exact hC.vr e
theorem yq_T.rb (h : yq_T s m M0 st M) (hL : yq_L G M0 s m H) : yq_T s m (mj_p0 M0 m 47 z) st (mj_p0 M m 47 z) := by
  obtain ⟨L, O, P, hC⟩ := h; exact ⟨L, O, P, hC.rb hL⟩
theorem yq_T.sd (h : yq_T s m (mj_p0 M0 m 47 z) st M) : M.1 m 47 = z := by
  obtain ⟨L, O, P, hC⟩ := h; exact (hC.2.2.1 47 (by decide) (by decide) (by decide)).trans hn_s
end YT
theorem r_wy0 {G : mj_G} {M0 : mj_M} {s m : Nat} {H : Nat → Int} {Q : mj_P} {d : Nat} (hL : yq_L G M0 s m H) (hH : ye_H2 H) : ∀ (n : Nat) (i : Int) (M : mj_M) (cb sb : Nat), i + n = 12 → 0 ≤ i → yq_T s m M0 (ye_it H (fun _ => 0) (ye_fr H) i.toNat) M → (∀ M, yq_T s m M0 (ye_it H (fun _ => 0) (ye_fr H) 12) M → Q none G M) → wz (d + 4) mt_X12_wholeYear.2.2.2.2.1 Q (mt_X12_wholeYear.2.2.2.2.1.drop 4) [some (.inr (.inr (some m))), some (.inl 0), some (.inl i)] [] G M cb sb := by
  have hf := ye_fr_ok hH
  intro n
  induction n with
  | zero =>
    intro i M cb sb e i0 hT h
    obtain rfl : i = 12 := by omega
    refine w_iln rfl ?_
    refine w_bp ?_
    refine w_cmge (fun c1 => ?_) (fun c1 => ?_)
    · skip
      exact w_ret (h _ hT)
    · exfalso; omega
  | succ n ih =>
    intro i M cb sb e i0 hT h
    have hok := ye_it_ok hH.1 hf.1 (xs := (fun _ => 0)) (fun _ => ⟨Int.le_refl 0, by decide⟩) i.toNat (by rw [hf.2]; omega)
    have h22 : (ye_it H (fun _ => 0) (ye_fr H) i.toNat).1 222 ≤ 11 := by rw [hok.2, hf.2]; omega
    have et : (i + 1).toNat = i.toNat + 1 := by omega
    refine w_iln rfl ?_
    refine w_bp ?_
    refine w_cmge (fun c1 => ?_) (fun c1 => ?_)
    · exfalso; omega
    · skip
      refine w_aln rfl ?_
      refine w_iln rfl ?_
      refine w_ifeq (fun c2 => ?_) (fun c2 => ?_)
      · skip
        refine w_ic ?_
        refine w_cv (st := []) rfl hL.gm rfl (Nat.le_of_ble_eq_true rfl) (fun kk h => h) (r_monthT (d := d) hL hT hH.1 hok.1 h22 ⟨Int.le_refl 0, by decide⟩ (fun M1 hT1 => ?_))
        refine w_ii rfl ⟨by show (-2147483648 : Int) ≤ i + 1; omega, by show i + 1 < (2147483648 : Int); omega⟩ ?_
        show wz _ _ _ _ [some (.inr (.inr (some m))), some (.inl 0), some (.inl (i + 1))] _ _ _ _ _
        refine w_goto ?_
        exact ih (i + 1) _ _ _ (by omega) (by omega) (by rw [et]; exact hT1) h
      · exfalso; omega
theorem r_X12_wholeYear0 {G : mj_G} {M0 : mj_M} {s m : Nat} {H : Nat → Int} {Q : mj_P} {d : Nat} (hL : yq_L G M0 s m H) (hH : ye_H2 H) (h : ∀ M, rq_Y s m (ye_it H (fun _ => 0) (ye_fr H) 12) M0 M → Q none G M) : mj_R mj_tab (d + 5) 258 [.inr (.inr (some m)), .inl 0] G M0 Q := by
  refine ⟨Nat.le_of_ble_eq_true rfl, ?_⟩
  show wz (d + 4) mt_X12_wholeYear.2.2.2.2.1 _ mt_X12_wholeYear.2.2.2.2.1 [some (.inr (.inr (some m))), some (.inl 0), none] [] G M0 _ _
  refine w_aln rfl ?_
  refine w_cv (st := []) rfl hL.gm rfl (Nat.le_of_ble_eq_true rfl) (fun kk h => h) (r_X12_beginsC (d := d + 2) hL.gm hL.gs hL.m6 (fun j hj => hL.vn hj) hH.1.1 hH.2 (fun M1 hZ => ?_))
  have hT1 : yq_T s m M1 (ye_fr H) M1 := hZ.T
  obtain ⟨z1, z2, z3, z4, -⟩ := hZ
  have em : M1.1 m = M0.1 m := z2 m (fun q => hL.sm q.symm)
  have hL1 : yq_L G M1 s m H := ⟨hL.gm, hL.gs, by rw [z1]; exact hL.m6, fun j hj => (z3 j (Or.inl hj)).trans (hL.vn hj), by rw [em]; exact hL.lk⟩
  refine w_ic ?_
  refine w_isn ?_
  show wz _ _ _ _ [some (.inr (.inr (some m))), some (.inl 0), some (.inl 0)] _ _ _ _ _
  refine r_wy0 (d := d) hL1 hH 12 0 _ _ _ (by decide) (by decide) hT1 (fun M2 hT2 => h M2 ?_)
  obtain ⟨L, O, P, c1, c2, c3, -, c5, c6, c7, c8⟩ := hT2
  exact ⟨c1.trans z1, fun a a1 a2 => (c2 a a1 a2).trans (z2 a a1), fun k k1 k2 k3 _ => (c3 k k1 k2 k3).trans (by rw [em]), fun j hj => (c5 j (by omega)).trans (z3 j hj), (c5 221 (by decide)).trans z4, c6, c7, c8⟩
  
theorem r_wy1 {G : mj_G} {M0 : mj_M} {s m : Nat} {H : Nat → Int} {z : Int} {Q : mj_P} {d : Nat} (hL : yq_L G M0 s m H) (hH : ye_H2 H) : ∀ (n : Nat) (i : Int) (M : mj_M) (cb sb : Nat), i + n = 12 → 0 ≤ i → yq_T s m (mj_p0 M0 m 47 (ye_sd z i.toNat)) (ye_it H (ye_xs z) (ye_fr H) i.toNat) M → (∀ M, yq_T s m (mj_p0 M0 m 47 (ye_sd z 12)) (ye_it H (ye_xs z) (ye_fr H) 12) M → Q none G M) → wz (d + 4) mt_X12_wholeYear.2.2.2.2.1 Q (mt_X12_wholeYear.2.2.2.2.1.drop 4) [some (.inr (.inr (some m))), some (.inl 1), some (.inl i)] [] G M cb sb := by
  have hf := ye_fr_ok hH
  intro n
  induction n with
  | zero =>
    intro i M cb sb e i0 hT h
    obtain rfl : i = 12 := by omega
    refine w_iln rfl ?_
    refine w_bp ?_
    refine w_cmge (fun c1 => ?_) (fun c1 => ?_)
    · skip
      exact w_ret (h _ hT)
    · exfalso; omega
  | succ n ih =>
    intro i M cb sb e i0 hT h
    have hok := ye_it_ok hH.1 hf.1 (xs := (ye_xs z)) (fun k => ye_dr_b _) i.toNat (by rw [hf.2]; omega)
    have h22 : (ye_it H (ye_xs z) (ye_fr H) i.toNat).1 222 ≤ 11 := by rw [hok.2, hf.2]; omega
    have et : (i + 1).toNat = i.toNat + 1 := by omega
    refine w_iln rfl ?_
    refine w_bp ?_
    refine w_cmge (fun c1 => ?_) (fun c1 => ?_)
    · exfalso; omega
    · skip
      refine w_aln rfl ?_
      refine w_iln rfl ?_
      refine w_ifeq (fun c2 => ?_) (fun c2 => ?_)
      · exfalso; omega
      · skip
        refine w_aln rfl ?_
        refine w_bp ?_
        refine w_cv (st := [.inr (.inr (some m))]) rfl hL.gm rfl (Nat.le_of_ble_eq_true rfl) (fun kk h => h) ⟨Nat.le_of_ble_eq_true rfl, ?_⟩
        show wz (d + 3) mt_X12_draw.2.2.2.2.1 _ mt_X12_draw.2.2.2.2.1 [some (.inr (.inr (some m))), some (.inl 100)] [] _ _ _ _
        refine w_aln rfl ?_
        refine w_aln rfl ?_
        refine w_gi hL.gm rfl (by decide) rfl hT.sd ?_
        refine w_ldcw ?_
        refine w_mulw ?_
        intro z1 hz1 ez1
        refine w_sp ?_
        refine w_addw ?_
        intro z2 hz2 ez2
        have e2 : z2 = ye_sd z (i.toNat + 1) := by
          rw [ez2, ez1, ye_sd_s]
          unfold ye_s1
          rfl
        rw [e2]
        refine w_pi hL.gm rfl (by decide) rfl (fun q => by cases q) ?_
        refine w_aln rfl ?_
        refine w_gi hL.gm rfl (by decide) rfl hn_s ?_
        refine w_bp ?_
        refine w_ushr ?_
        intro z3 hz3 ez3
        refine w_iln rfl ?_
        refine w_rem (by decide) ?_
        intro z4 hz4 ez4
        have e4 : z4 = ye_xs z i.toNat := by rw [ez4, ez3]; rfl
        rw [e4]
        refine w_iret (fun q => by cases q) ?_
        refine w_goto ?_
        have hT9 := hT.rb (z := ye_sd z (i.toNat + 1)) hL.sd
        rw [mj_p47] at hT9
        refine w_cv (st := []) rfl hL.gm rfl (Nat.le_of_ble_eq_true rfl) (fun kk h => h) (r_monthT (d := d) hL.sd hT9 hH.1 hok.1 h22 (ye_dr_b _) (fun M1 hT1 => ?_))
        refine w_ii rfl ⟨by show (-2147483648 : Int) ≤ i + 1; omega, by show i + 1 < (2147483648 : Int); omega⟩ ?_
        show wz _ _ _ _ [some (.inr (.inr (some m))), some (.inl 1), some (.inl (i + 1))] _ _ _ _ _
        refine w_goto ?_
        exact ih (i + 1) _ _ _ (by omega) (by omega) (by rw [et]; exact hT1) h
theorem r_X12_wholeYear1 {G : mj_G} {M0 : mj_M} {s m : Nat} {H : Nat → Int} {z : Int} {Q : mj_P} {d : Nat} (hL : yq_L G M0 s m H) (hH : ye_H2 H) (hs : M0.1 m 47 = z) (h : ∀ M, rq_Y s m (ye_it H (ye_xs z) (ye_fr H) 12) M0 M → Q none G M) : mj_R mj_tab (d + 5) 258 [.inr (.inr (some m)), .inl 1] G M0 Q := by
  refine ⟨Nat.le_of_ble_eq_true rfl, ?_⟩
  show wz (d + 4) mt_X12_wholeYear.2.2.2.2.1 _ mt_X12_wholeYear.2.2.2.2.1 [some (.inr (.inr (some m))), some (.inl 1), none] [] G M0 _ _
  refine w_aln rfl ?_
  refine w_cv (st := []) rfl hL.gm rfl (Nat.le_of_ble_eq_true rfl) (fun kk h => h) (r_X12_beginsC (d := d + 2) hL.gm hL.gs hL.m6 (fun j hj => hL.vn hj) hH.1.1 hH.2 (fun M1 hZ => ?_))
  have hT1 : yq_T s m M1 (ye_fr H) M1 := hZ.T
  obtain ⟨z1, z2, z3, z4, -⟩ := hZ
  have em : M1.1 m = M0.1 m := z2 m (fun q => hL.sm q.symm)
  have hL1 : yq_L G M1 s m H := ⟨hL.gm, hL.gs, by rw [z1]; exact hL.m6, fun j hj => (z3 j (Or.inl hj)).trans (hL.vn hj), by rw [em]; exact hL.lk⟩
  refine w_ic ?_
  refine w_isn ?_
  show wz _ _ _ _ [some (.inr (.inr (some m))), some (.inl 1), some (.inl 0)] _ _ _ _ _
  have hT0 := hT1.rb (z := z) hL1
  have e47 : mj_p0 M1 m 47 z = M1 := by
    have e : (mj_p0 M1 m 47 z).1 = M1.1 := funext fun x => funext fun j => by
      show (if x = m ∧ j = 47 then z else M1.1 x j) = M1.1 x j
      by_cases c : x = m ∧ j = 47
      · rw [if_pos c, c.1, c.2, em, hs]
      · rw [if_neg c]
    show ((mj_p0 M1 m 47 z).1, M1.2) = M1
    rw [e]
  refine r_wy1 (d := d) hL1 hH 12 0 _ _ _ (by decide) (by decide) (by show yq_T s m (mj_p0 M1 m 47 z) _ M1; rw [e47]; exact hT1) (fun M2 hT2 => h M2 ?_)
  obtain ⟨L, O, P, c1, c2, c3, -, c5, c6, c7, c8⟩ := hT2
  have es : (mj_p0 M1 m 47 (ye_sd z 12)).1 s = M1.1 s := wz_c hL.sm
  rw [es] at c5
  exact ⟨c1.trans z1, fun a a1 a2 => (c2 a a1 a2).trans ((wz_c a2).trans (z2 a a1)), fun k k1 k2 k3 k4 => (c3 k k1 k2 k3).trans ((hn_n (Or.inr k4)).trans (by rw [em])), fun j hj => (c5 j (by omega)).trans (z3 j hj), (c5 221 (by decide)).trans z4, c6, c7, c8⟩
  
end
section
/-! ===== trial YEARS of the reference (laid by a program) ===== -/
theorem r_thk {G : mj_G} {M0 : mj_M} {s m bf : Nat} {Q : mj_P} {d : Nat} (gm : G m = (1012, 0)) (gs : G s = (51100, 537)) (gb : G bf = (64100, 135)) (m6 : M0.2.2 m 6 = some s) (m45 : M0.2.2 m 45 = some bf) : ∀ (n : Nat) (i : Int) (BF : Nat → Int) (M : mj_M) (cb sb : Nat), i + n = 135 → 0 ≤ i → tk_R bf M0 BF M → (∀ k : Nat, k < 135 → (k : Int) < i → BF k = M0.1 s (221 + k)) → (∀ M, M.2 = M0.2 → (∀ a, a ≠ bf → M.1 a = M0.1 a) → (∀ k, k < 135 → M.1 bf k = M0.1 s (221 + k)) → Q none G M) → wz (d + 1) mt_X12_thinks.2.2.2.2.1 Q (mt_X12_thinks.2.2.2.2.1.drop 2) [some (.inr (.inr (some m))), some (.inl i)] [] G M cb sb := by
  have nsb : s ≠ bf := hn_ne gs gb (by decide)
  intro n
  induction n with
  | zero =>
    intro i BF M cb sb e i0 hC hz h
    obtain rfl : i = 135 := by omega
    refine w_iln rfl ?_
    refine w_sp ?_
    refine w_cmge (fun c1 => ?_) (fun c1 => ?_)
    · skip
      exact w_ret (h _ hC.1 hC.2.1 (fun k hk => (hC.2.2 k (by omega)).trans (hz k hk (by omega))))
    · exfalso; omega
  | succ n ih =>
    intro i BF M cb sb e i0 hC hz h
    refine w_iln rfl ?_
    refine w_sp ?_
    refine w_cmge (fun c1 => ?_) (fun c1 => ?_)
    · exfalso; omega
    · skip
      refine w_aln rfl ?_
      refine w_gr gm rfl (by decide) rfl (hC.r (m45)) ?_
      refine w_iln rfl ?_
      refine w_aln rfl ?_
      refine w_gr gm rfl (by decide) rfl (hC.r (m6)) ?_
      refine w_sp ?_
      refine w_iln rfl ?_
      refine w_add ⟨by show (-2147483648 : Int) ≤ 221 + i; omega, by show 221 + i < (2147483648 : Int); omega⟩ ?_
      refine w_iald (v := (M0.1 s (221 + i.toNat))) gs rfl (by show (0 : Int) ≤ 221 + i; omega) (by show 221 + i < ((537 : Nat) : Int); omega) ((congrFun (hC.2.1 s nsb) _).trans (congrArg (M0.1 s) (show (221 + i).toNat = 221 + i.toNat by omega))) ?_
      refine w_iast gb rfl (by decide) (by show (0 : Int) ≤ i; omega) (by show i < ((135 : Nat) : Int); omega) ?_
      have hC2 := hC.hW (j := i.toNat) (z := (M0.1 s (221 + i.toNat))) rfl
      refine w_ii rfl ⟨by show (-2147483648 : Int) ≤ i + 1; omega, by show i + 1 < (2147483648 : Int); omega⟩ ?_
      show wz _ _ _ _ [some (.inr (.inr (some m))), some (.inl (i + 1))] _ _ _ _ _
      refine w_goto ?_
      refine ih (i + 1) _ _ _ _ (by omega) (by omega) hC2 (fun k hk hki => ?_) h
      by_cases e9 : k = i.toNat
      · rw [e9]; exact rv_up_s
      · rw [rv_up_n e9]; exact hz k hk (by omega)
theorem r_X12_thinksC {G : mj_G} {M0 : mj_M} {s m bf : Nat} {Q : mj_P} {d : Nat} (gm : G m = (1012, 0)) (gs : G s = (51100, 537)) (gb : G bf = (64100, 135)) (m6 : M0.2.2 m 6 = some s) (m45 : M0.2.2 m 45 = some bf) (h : ∀ M, M.2 = M0.2 → (∀ a, a ≠ bf → M.1 a = M0.1 a) → (∀ k, k < 135 → M.1 bf k = M0.1 s (221 + k)) → Q none G M) : mj_R mj_tab (d + 2) 247 [.inr (.inr (some m))] G M0 Q := by
  refine ⟨Nat.le_of_ble_eq_true rfl, ?_⟩
  show wz (d + 1) mt_X12_thinks.2.2.2.2.1 _ mt_X12_thinks.2.2.2.2.1 [some (.inr (.inr (some m))), none] [] G M0 _ _
  refine w_ic ?_
  refine w_isn ?_
  show wz _ _ _ _ [some (.inr (.inr (some m))), some (.inl 0)] _ _ _ _ _
  exact r_thk (d := d) gm gs gb m6 m45 135 0 (M0.1 bf) M0 _ _ (by decide) (by decide) ⟨rfl, fun _ _ => rfl, fun _ _ => rfl⟩ (fun k _ q => by omega) h
theorem r_fgt {G : mj_G} {M0 : mj_M} {s m bf : Nat} {Q : mj_P} {d : Nat} (gm : G m = (1012, 0)) (gs : G s = (51100, 537)) (gb : G bf = (64100, 135)) (m6 : M0.2.2 m 6 = some s) (m45 : M0.2.2 m 45 = some bf) : ∀ (n : Nat) (i : Int) (SF : Nat → Int) (M : mj_M) (cb sb : Nat), i + n = 135 → 0 ≤ i → tk_R s M0 SF M → (∀ k : Nat, k < 537 → (221 ≤ k ∧ (k : Int) < 221 + i → SF k = M0.1 bf (k - 221)) ∧ (k < 221 ∨ 221 + i ≤ (k : Int) → SF k = M0.1 s k)) → (∀ M, M.2 = M0.2 → (∀ a, a ≠ s → M.1 a = M0.1 a) → (∀ k, k < 537 → (221 ≤ k ∧ k < 356 → M.1 s k = M0.1 bf (k - 221)) ∧ (k < 221 ∨ 356 ≤ k → M.1 s k = M0.1 s k)) → Q none G M) → wz (d + 1) mt_X12_forgets.2.2.2.2.1 Q (mt_X12_forgets.2.2.2.2.1.drop 2) [some (.inr (.inr (some m))), some (.inl i)] [] G M cb sb := by
  have nbs : bf ≠ s := hn_ne gb gs (by decide)
  intro n
  induction n with
  | zero =>
    intro i SF M cb sb e i0 hC hz h
    obtain rfl : i = 135 := by omega
    refine w_iln rfl ?_
    refine w_sp ?_
    refine w_cmge (fun c1 => ?_) (fun c1 => ?_)
    · skip
      exact w_ret (h _ hC.1 hC.2.1 (fun k hk => ⟨fun q => (hC.2.2 k hk).trans ((hz k hk).1 (by omega)), fun q => (hC.2.2 k hk).trans ((hz k hk).2 (by omega))⟩))
    · exfalso; omega
  | succ n ih =>
    intro i SF M cb sb e i0 hC hz h
    refine w_iln rfl ?_
    refine w_sp ?_
    refine w_cmge (fun c1 => ?_) (fun c1 => ?_)
    · exfalso; omega
    · skip
      refine w_aln rfl ?_
      refine w_gr gm rfl (by decide) rfl (hC.r (m6)) ?_
      refine w_sp ?_
      refine w_iln rfl ?_
      refine w_add ⟨by show (-2147483648 : Int) ≤ 221 + i; omega, by show 221 + i < (2147483648 : Int); omega⟩ ?_
      refine w_aln rfl ?_
      refine w_gr gm rfl (by decide) rfl (hC.r (m45)) ?_
      refine w_iln rfl ?_
      refine w_iald (v := (M0.1 bf i.toNat)) gb rfl (by show (0 : Int) ≤ i; omega) (by show i < ((135 : Nat) : Int); omega) ((congrFun (hC.2.1 bf nbs) _)) ?_
      refine w_iast gs rfl (by decide) (by show (0 : Int) ≤ 221 + i; omega) (by show 221 + i < ((537 : Nat) : Int); omega) ?_
      have hC2 := hC.hW (j := (221 + i).toNat) (z := (M0.1 bf i.toNat)) rfl
      refine w_ii rfl ⟨by show (-2147483648 : Int) ≤ i + 1; omega, by show i + 1 < (2147483648 : Int); omega⟩ ?_
      show wz _ _ _ _ [some (.inr (.inr (some m))), some (.inl (i + 1))] _ _ _ _ _
      refine w_goto ?_
      refine ih (i + 1) _ _ _ _ (by omega) (by omega) hC2 (fun k hk => ?_) h
      by_cases e9 : k = 221 + i.toNat
      · exact ⟨fun _ => (tk_up (by omega)).trans (congrArg (M0.1 bf) (by omega)), fun q => by omega⟩
      · exact ⟨fun q => (rv_up_n (by omega)).trans ((hz k hk).1 (by omega)), fun q => (rv_up_n (by omega)).trans ((hz k hk).2 (by omega))⟩
theorem r_X12_forgetsC {G : mj_G} {M0 : mj_M} {s m bf : Nat} {Q : mj_P} {d : Nat} (gm : G m = (1012, 0)) (gs : G s = (51100, 537)) (gb : G bf = (64100, 135)) (m6 : M0.2.2 m 6 = some s) (m45 : M0.2.2 m 45 = some bf) (h : ∀ M, M.2 = M0.2 → (∀ a, a ≠ s → M.1 a = M0.1 a) → (∀ k, k < 537 → (221 ≤ k ∧ k < 356 → M.1 s k = M0.1 bf (k - 221)) ∧ (k < 221 ∨ 356 ≤ k → M.1 s k = M0.1 s k)) → Q none G M) : mj_R mj_tab (d + 2) 189 [.inr (.inr (some m))] G M0 Q := by
  refine ⟨Nat.le_of_ble_eq_true rfl, ?_⟩
  show wz (d + 1) mt_X12_forgets.2.2.2.2.1 _ mt_X12_forgets.2.2.2.2.1 [some (.inr (.inr (some m))), none] [] G M0 _ _
  refine w_ic ?_
  refine w_isn ?_
  show wz _ _ _ _ [some (.inr (.inr (some m))), some (.inl 0)] _ _ _ _ _
  exact r_fgt (d := d) gm gs gb m6 m45 135 0 (M0.1 s) M0 _ _ (by decide) (by decide) ⟨rfl, fun _ _ => rfl, fun _ _ => rfl⟩ (fun k hk => ⟨fun q => by omega, fun _ => rfl⟩) h
/-- what a call that thinks and forgets leaves -/
def rq_K (s m bf : Nat) (M M' : mj_M) : Prop := M'.2 = M.2 ∧ (∀ a, a ≠ s → a ≠ m → a ≠ bf → M'.1 a = M.1 a) ∧ (∀ j, j < 537 → M'.1 s j = M.1 s j) ∧ (∀ k, k ≠ 0 → k ≠ 29 → k ≠ 30 → k ≠ 31 → k ≠ 47 → M'.1 m k = M.1 m k)
/-- while it thinks: all but the YEAR is as it was -/
def rq_M (s m bf : Nat) (M M' : mj_M) : Prop := M'.2 = M.2 ∧ (∀ a, a ≠ s → a ≠ m → a ≠ bf → M'.1 a = M.1 a) ∧ (∀ j, j < 221 ∨ (356 ≤ j ∧ j < 537) → M'.1 s j = M.1 s j) ∧ (∀ k, k ≠ 0 → k ≠ 29 → k ≠ 30 → k ≠ 31 → k ≠ 47 → M'.1 m k = M.1 m k) ∧ (∀ k, k < 135 → M'.1 bf k = M.1 s (221 + k))
theorem ye_sh0 {i : Int} : Int32.ofInt (Int32.ofInt 0 <<< (Int32.ofInt i &&& 31)).toInt = Int32.ofInt 0 := by
  rw [Int32.ofInt_toInt, show Int32.ofInt 0 = 0 from rfl]
  first
    | exact Int32.zero_shiftLeft
    | exact Int32.zero_shiftLeft _
    | (generalize Int32.ofInt i &&& 31 = y; apply Int32.toBitVec_inj.mp; rw [Int32.toBitVec_shiftLeft]; exact BitVec.zero_shiftLeft _)
    | (generalize Int32.ofInt i &&& 31 = y; apply Int32.toBitVec_inj.mp; rw [Int32.toBitVec_shiftLeft]; simp)
section YK
variable {G : mj_G} {M M1 M2 M' : mj_M} {s m bf : Nat} {H : Nat → Int} {st : ye_T} {z : Int} {a b k t w j : Nat}
theorem rq_M.yr (h : rq_M s m bf M M1) (hY : rq_Y s m st M1 M') (nbs : bf ≠ s) (nbm : bf ≠ m) : rq_M s m bf M M' := by
  obtain ⟨a1, a2, a3, a4, a5⟩ := h
  obtain ⟨b1, b2, b3, b4, -⟩ := hY
  exact ⟨b1.trans a1, fun a h1 h2 h3 => (b2 a h1 h2).trans (a2 a h1 h2 h3), fun j hj => (b4 j hj).trans (a3 j hj), fun k k0 k1 k2 k3 k4 => (b3 k k1 k2 k3 k4).trans (a4 k k0 k1 k2 k3 k4), fun k hk => (congrFun (b2 bf nbs nbm) k).trans (a5 k hk)⟩
theorem rq_M.end (h : rq_M s m bf M M1) (nbs : bf ≠ s) (nms : m ≠ s) (e2 : M'.2 = M1.2) (e1 : ∀ a, a ≠ s → M'.1 a = M1.1 a) (e : ∀ k, k < 537 → (221 ≤ k ∧ k < 356 → M'.1 s k = M1.1 bf (k - 221)) ∧ (k < 221 ∨ 356 ≤ k → M'.1 s k = M1.1 s k)) : rq_K s m bf M M' := by
  obtain ⟨a1, a2, a3, a4, a5⟩ := h
  refine ⟨e2.trans a1, fun a h1 h2 h3 => (e1 a h1).trans (a2 a h1 h2 h3), fun j hj => ?_, fun k k0 k1 k2 k3 k4 => (congrFun (e1 m nms) k).trans (a4 k k0 k1 k2 k3 k4)⟩
  by_cases c : 221 ≤ j ∧ j < 356
  · rw [(e j hj).1 c, a5 (j - 221) (by omega), show 221 + (j - 221) = j by omega]
  · rw [(e j hj).2 (by omega)]; exact a3 j (by omega)
theorem rq_Y.R (h : rq_Y s m st M M') (e : j = 232 + 11 * t + w) (ht : t < 8) (hw : w < 11) : M'.1 s j = st.2.2.2.2 t w := by rw [e]; exact h.2.2.2.2.2.2.2 t w ht hw
theorem rq_Y.g (h : rq_Y s m st M M') (h1 : 222 ≤ j) (h2 : j < 232) : M'.1 s j = st.1 j := h.2.2.2.2.2.1 j h1 h2
theorem rq_M.L (h : rq_M s m bf M M1) (hL : yq_L G M s m H) : yq_L G M1 s m H := ⟨hL.gm, hL.gs, by rw [h.1]; exact hL.m6, fun j hj => (h.2.2.1 j (Or.inl hj)).trans (hL.vn hj), (h.2.2.2.1 32 (by decide) (by decide) (by decide) (by decide) (by decide)).trans hL.lk⟩
end YK
def ye_y0 (H : Nat → Int) : ye_T := ye_it H (fun _ => 0) (ye_fr H) 12
def ye_yd (H : Nat → Int) (z : Int) : ye_T := ye_it H (ye_xs z) (ye_fr H) 12
/-- bits, one a TOWN -/
def ye_ob (f : Nat → Int) : Nat → Int
  | 0 => 0
  | k + 1 => (Int32.ofInt (ye_ob f k) ||| Int32.ofInt (Int32.ofInt (f k) <<< (Int32.ofInt (k : Int) &&& 31)).toInt).toInt
def lr_shoresOf (H : Nat → Int) : Int := if H 0 = 0 then -1 else ye_ob (fun t => (ye_y0 H).2.2.2.2 t 3) (H 0).toNat
def lr_thirsty (H : Nat → Int) : Int := if H 0 = 0 then -1 else ye_ob (fun t => if (ye_y0 H).2.2.2.2 t 6 < H (8 + 9 * t) then 1 else 0) (H 0).toNat
def lr_drawn (H : Nat → Int) (z : Int) : Int := if H 0 = 0 then -10001 else (ye_yd H z).1 224
theorem r_shoresOfB {G : mj_G} {M M2 M3 : mj_M} {s m bf : Nat} {H : Nat → Int} {Q : mj_P} {d : Nat} (hL : yq_L G M s m H) (h0 : 0 ≤ H 0 ∧ H 0 ≤ 8) (hM2 : rq_M s m bf M M2) (hY : rq_Y s m (ye_y0 H) M3 M2) : ∀ (n : Nat) (i : Int) (cb sb : Nat), i + n = H 0 → 0 ≤ i → wz (d + 2) mt_X12_shoresOf.2.2.2.2.1 Q (mt_X12_shoresOf.2.2.2.2.1.drop 36) [some (.inr (.inr (some m))), some (.inl (ye_ob (fun t => (ye_y0 H).2.2.2.2 t 3) (H 0).toNat)), some (.inl (H 0))] [] G M2 cb sb → wz (d + 2) mt_X12_shoresOf.2.2.2.2.1 Q (mt_X12_shoresOf.2.2.2.2.1.drop 19) [some (.inr (.inr (some m))), some (.inl (ye_ob (fun t => (ye_y0 H).2.2.2.2 t 3) i.toNat)), some (.inl i)] [] G M2 cb sb := by
  have m62 : M2.2.2 m 6 = some s := by rw [hM2.1]; exact hL.m6
  intro n
  induction n with
  | zero =>
    intro i cb sb e i0 h
    obtain rfl : i = H 0 := by omega
    refine w_iln rfl ?_
    refine w_aln rfl ?_
    refine w_gr hL.gm rfl (by decide) rfl (m62) ?_
    refine w_ic ?_
    refine w_iald (v := (H 0)) hL.gs rfl (by show (0 : Int) ≤ 0; omega) (by show 0 < ((537 : Nat) : Int); omega) ((congrArg (M2.1 s) (show (0 : Int).toNat = 0 by omega)).trans ((hM2.2.2.1 (0) (Or.inl (by omega))).trans (hL.vn (by omega)))) ?_
    refine w_cmge (fun c1 => ?_) (fun c1 => ?_)
    · skip
      exact h
    · exfalso; omega
  | succ n ih =>
    intro i cb sb e i0 h
    have et : (i + 1).toNat = i.toNat + 1 := by omega
    have ei : ((i.toNat : Nat) : Int) = i := by omega
    refine w_iln rfl ?_
    refine w_aln rfl ?_
    refine w_gr hL.gm rfl (by decide) rfl (m62) ?_
    refine w_ic ?_
    refine w_iald (v := (H 0)) hL.gs rfl (by show (0 : Int) ≤ 0; omega) (by show 0 < ((537 : Nat) : Int); omega) ((congrArg (M2.1 s) (show (0 : Int).toNat = 0 by omega)).trans ((hM2.2.2.1 (0) (Or.inl (by omega))).trans (hL.vn (by omega)))) ?_
    refine w_cmge (fun c1 => ?_) (fun c1 => ?_)
    · exfalso; omega
    · skip
      refine w_iln rfl ?_
      refine w_aln rfl ?_
      refine w_iln rfl ?_
      refine w_ic ?_
      refine w_cv (st := [.inl (ye_ob (fun t => (ye_y0 H).2.2.2.2 t 3) i.toNat)]) rfl hL.gm rfl (Nat.le_of_ble_eq_true rfl) (fun kk h => h) ⟨Nat.le_of_ble_eq_true rfl, ?_⟩
      show wz (d + 1) mt_X12_of.2.2.2.2.1 _ mt_X12_of.2.2.2.2.1 [some (.inr (.inr (some m))), some (.inl i), some (.inl 3)] [] _ _ _ _
      refine w_aln rfl ?_
      refine w_gr hL.gm rfl (by decide) rfl (m62) ?_
      refine w_sp ?_
      refine w_bp ?_
      refine w_iln rfl ?_
      refine w_mul ⟨by show (-2147483648 : Int) ≤ 11 * i; omega, by show 11 * i < (2147483648 : Int); omega⟩ ?_
      refine w_add ⟨by show (-2147483648 : Int) ≤ 232 + (11 * i); omega, by show 232 + (11 * i) < (2147483648 : Int); omega⟩ ?_
      refine w_iln rfl ?_
      refine w_add ⟨by show (-2147483648 : Int) ≤ (232 + (11 * i)) + 3; omega, by show (232 + (11 * i)) + 3 < (2147483648 : Int); omega⟩ ?_
      refine w_iald (v := ((ye_y0 H).2.2.2.2 i.toNat 3)) hL.gs rfl (by show (0 : Int) ≤ (232 + (11 * i)) + 3; omega) (by show (232 + (11 * i)) + 3 < ((537 : Nat) : Int); omega) (hY.R (w := 3) (by show ((232 + (11 * i)) + 3).toNat = 232 + 11 * i.toNat + 3; omega) (by show i.toNat < 8; omega) (by decide)) ?_
      refine w_iret (fun q => by cases q) ?_
      refine w_iln rfl ?_
      refine w_shl ?_
      intro z2 hz2 ez2
      refine w_or ?_
      intro z3 hz3 ez3
      refine w_isn ?_
      show wz _ _ _ _ [some (.inr (.inr (some m))), some (.inl z3), some (.inl i)] _ _ _ _ _
      refine w_ii rfl ⟨by show (-2147483648 : Int) ≤ i + 1; omega, by show i + 1 < (2147483648 : Int); omega⟩ ?_
      show wz _ _ _ _ [some (.inr (.inr (some m))), some (.inl z3), some (.inl (i + 1))] _ _ _ _ _
      refine w_goto ?_
      have ez : z3 = ye_ob (fun t => (ye_y0 H).2.2.2.2 t 3) (i + 1).toNat := by
        rw [et]; show _ = (Int32.ofInt (ye_ob (fun t => (ye_y0 H).2.2.2.2 t 3) i.toNat) ||| Int32.ofInt (Int32.ofInt ((fun t => (ye_y0 H).2.2.2.2 t 3) i.toNat) <<< (Int32.ofInt ((i.toNat : Nat) : Int) &&& 31)).toInt).toInt
        rw [ei]
        rw [ez3, ez2]
      rw [ez]
      exact ih (i + 1) _ _ (by omega) (by omega) h
theorem r_X12_shoresOfC {G : mj_G} {M : mj_M} {s m bf : Nat} {H : Nat → Int} {Q : mj_P} {d : Nat} (hL : yq_L G M s m H) (gb : G bf = (64100, 135)) (m45 : M.2.2 m 45 = some bf) (hH : ye_H2 H) (h : ∀ M1, rq_K s m bf M M1 → Q (some (.inl (lr_shoresOf H))) G M1) : mj_R mj_tab (d + 6) 241 [.inr (.inr (some m))] G M Q := by
  have nbs : bf ≠ s := hn_ne gb hL.gs (by decide)
  have nbm : bf ≠ m := hn_ne gb hL.gm (by decide)
  have nms : m ≠ s := hL.sm.symm
  have h0 := hH.1.1
  refine ⟨Nat.le_of_ble_eq_true rfl, ?_⟩
  show wz (d + 5) mt_X12_shoresOf.2.2.2.2.1 _ mt_X12_shoresOf.2.2.2.2.1 [some (.inr (.inr (some m))), none, none] [] G M _ _
  refine w_aln rfl ?_
  refine w_ic ?_
  refine w_pi hL.gm rfl (by decide) rfl (fun q => by cases q) ?_
  refine w_aln rfl ?_
  refine w_gr hL.gm rfl (by decide) rfl (hL.m6) ?_
  refine w_ic ?_
  refine w_iald (v := (H 0)) hL.gs rfl (by show (0 : Int) ≤ 0; omega) (by show 0 < ((537 : Nat) : Int); omega) ((congrFun (wz_c hL.sm) _).trans ((congrArg (M.1 s) (show (0 : Int).toNat = 0 by omega)).trans (hL.vn (by omega)))) ?_
  refine w_ifne (fun c1 => ?_) (fun c1 => ?_)
  · skip
    refine w_aln rfl ?_
    refine w_cv (st := []) rfl hL.gm rfl (Nat.le_of_ble_eq_true rfl) (fun kk h => h) (r_X12_thinksC (M0 := mj_p0 M m 0 0) (d := d + 3) hL.gm hL.gs gb hL.m6 m45 (fun M1 t1 t2 t3 => ?_))
    have hM : rq_M s m bf M M1 := ⟨t1, fun a a1 a2 a3 => (t2 a a3).trans (wz_c a2), fun j _ => (congrFun (t2 s nbs.symm) j).trans (congrFun (wz_c hL.sm) j), fun k k0 _ _ _ _ => (congrFun (t2 m nbm.symm) k).trans (hn_n (Or.inr k0)), fun k hk => (t3 k hk).trans (congrFun (wz_c hL.sm) _)⟩
    have m6 : M1.2.2 m 6 = some s := by rw [t1]; exact hL.m6
    refine w_aln rfl ?_
    refine w_ic ?_
    refine w_cv (st := []) rfl hL.gm rfl (Nat.le_of_ble_eq_true rfl) (fun kk h => h) (r_X12_wholeYear0 (d := d) (hM.L hL) hH (fun M2 hY => ?_))
    have hM2 := hM.yr hY nbs nbm
    have m62 : M2.2.2 m 6 = some s := by rw [hM2.1]; exact hL.m6
    refine w_ic ?_
    refine w_isn ?_
    show wz _ _ _ _ [some (.inr (.inr (some m))), some (.inl 0), none] _ _ _ _ _
    refine w_ic ?_
    refine w_isn ?_
    show wz _ _ _ _ [some (.inr (.inr (some m))), some (.inl 0), some (.inl 0)] _ _ _ _ _
    refine r_shoresOfB (d := d + 3) hL h0 hM2 hY (H 0).toNat 0 _ _ (by omega) (by decide) ?_
    refine w_aln rfl ?_
    refine w_cv (st := []) rfl hL.gm rfl (Nat.le_of_ble_eq_true rfl) (fun kk h => h) (r_X12_forgetsC (M0 := M2) (d := d + 3) hL.gm hL.gs gb (by rw [hM2.1]; exact hL.m6) (by rw [hM2.1]; exact m45) (fun M9 f1 f2 f3 => ?_))
    have hK := hM2.end nbs nms f1 f2 f3
    refine w_iln rfl ?_
    exact w_iret (fun q => by cases q) (by have q := h _ hK; unfold lr_shoresOf at q; rw [if_neg (by omega)] at q; exact q)
  · skip
    refine w_ic ?_
    have hK : rq_K s m bf M (mj_p0 M m 0 0) := ⟨rfl, fun a _ a2 _ => wz_c a2, fun j _ => congrFun (wz_c hL.sm) j, fun k k0 _ _ _ _ => hn_n (Or.inr k0)⟩
    exact w_iret (fun q => by cases q) (by have q := h _ hK; unfold lr_shoresOf at q; rw [if_pos (by omega)] at q; exact q)
theorem r_thirstyB {G : mj_G} {M M2 M3 : mj_M} {s m bf : Nat} {H : Nat → Int} {Q : mj_P} {d : Nat} (hL : yq_L G M s m H) (h0 : 0 ≤ H 0 ∧ H 0 ≤ 8) (hM2 : rq_M s m bf M M2) (hY : rq_Y s m (ye_y0 H) M3 M2) : ∀ (n : Nat) (i : Int) (cb sb : Nat), i + n = H 0 → 0 ≤ i → wz (d + 2) mt_X12_thirsty.2.2.2.2.1 Q (mt_X12_thirsty.2.2.2.2.1.drop 44) [some (.inr (.inr (some m))), some (.inl (ye_ob (fun t => if (ye_y0 H).2.2.2.2 t 6 < H (8 + 9 * t) then 1 else 0) (H 0).toNat)), some (.inl (H 0))] [] G M2 cb sb → wz (d + 2) mt_X12_thirsty.2.2.2.2.1 Q (mt_X12_thirsty.2.2.2.2.1.drop 19) [some (.inr (.inr (some m))), some (.inl (ye_ob (fun t => if (ye_y0 H).2.2.2.2 t 6 < H (8 + 9 * t) then 1 else 0) i.toNat)), some (.inl i)] [] G M2 cb sb := by
  have m62 : M2.2.2 m 6 = some s := by rw [hM2.1]; exact hL.m6
  intro n
  induction n with
  | zero =>
    intro i cb sb e i0 h
    obtain rfl : i = H 0 := by omega
    refine w_iln rfl ?_
    refine w_aln rfl ?_
    refine w_gr hL.gm rfl (by decide) rfl (m62) ?_
    refine w_ic ?_
    refine w_iald (v := (H 0)) hL.gs rfl (by show (0 : Int) ≤ 0; omega) (by show 0 < ((537 : Nat) : Int); omega) ((congrArg (M2.1 s) (show (0 : Int).toNat = 0 by omega)).trans ((hM2.2.2.1 (0) (Or.inl (by omega))).trans (hL.vn (by omega)))) ?_
    refine w_cmge (fun c1 => ?_) (fun c1 => ?_)
    · skip
      exact h
    · exfalso; omega
  | succ n ih =>
    intro i cb sb e i0 h
    have et : (i + 1).toNat = i.toNat + 1 := by omega
    have ei : ((i.toNat : Nat) : Int) = i := by omega
    refine w_iln rfl ?_
    refine w_aln rfl ?_
    refine w_gr hL.gm rfl (by decide) rfl (m62) ?_
    refine w_ic ?_
    refine w_iald (v := (H 0)) hL.gs rfl (by show (0 : Int) ≤ 0; omega) (by show 0 < ((537 : Nat) : Int); omega) ((congrArg (M2.1 s) (show (0 : Int).toNat = 0 by omega)).trans ((hM2.2.2.1 (0) (Or.inl (by omega))).trans (hL.vn (by omega)))) ?_
    refine w_cmge (fun c1 => ?_) (fun c1 => ?_)
    · exfalso; omega
    · skip
      refine w_iln rfl ?_
      refine w_aln rfl ?_
      refine w_iln rfl ?_
      refine w_bp ?_
      refine w_cv (st := [.inl (ye_ob (fun t => if (ye_y0 H).2.2.2.2 t 6 < H (8 + 9 * t) then 1 else 0) i.toNat)]) rfl hL.gm rfl (Nat.le_of_ble_eq_true rfl) (fun kk h => h) ⟨Nat.le_of_ble_eq_true rfl, ?_⟩
      show wz (d + 1) mt_X12_of.2.2.2.2.1 _ mt_X12_of.2.2.2.2.1 [some (.inr (.inr (some m))), some (.inl i), some (.inl 6)] [] _ _ _ _
      refine w_aln rfl ?_
      refine w_gr hL.gm rfl (by decide) rfl (m62) ?_
      refine w_sp ?_
      refine w_bp ?_
      refine w_iln rfl ?_
      refine w_mul ⟨by show (-2147483648 : Int) ≤ 11 * i; omega, by show 11 * i < (2147483648 : Int); omega⟩ ?_
      refine w_add ⟨by show (-2147483648 : Int) ≤ 232 + (11 * i); omega, by show 232 + (11 * i) < (2147483648 : Int); omega⟩ ?_
      refine w_iln rfl ?_
      refine w_add ⟨by show (-2147483648 : Int) ≤ (232 + (11 * i)) + 6; omega, by show (232 + (11 * i)) + 6 < (2147483648 : Int); omega⟩ ?_
      refine w_iald (v := ((ye_y0 H).2.2.2.2 i.toNat 6)) hL.gs rfl (by show (0 : Int) ≤ (232 + (11 * i)) + 6; omega) (by show (232 + (11 * i)) + 6 < ((537 : Nat) : Int); omega) (hY.R (w := 6) (by show ((232 + (11 * i)) + 6).toNat = 232 + 11 * i.toNat + 6; omega) (by show i.toNat < 8; omega) (by decide)) ?_
      refine w_iret (fun q => by cases q) ?_
      refine w_aln rfl ?_
      refine w_iln rfl ?_
      refine w_ic ?_
      refine w_cv (st := [.inl ((ye_y0 H).2.2.2.2 i.toNat 6), .inl (ye_ob (fun t => if (ye_y0 H).2.2.2.2 t 6 < H (8 + 9 * t) then 1 else 0) i.toNat)]) rfl hL.gm rfl (Nat.le_of_ble_eq_true rfl) (fun kk h => h) ⟨Nat.le_of_ble_eq_true rfl, ?_⟩
      show wz (d + 1) mt_X12_toldOf.2.2.2.2.1 _ mt_X12_toldOf.2.2.2.2.1 [some (.inr (.inr (some m))), some (.inl i), some (.inl 4)] [] _ _ _ _
      refine w_aln rfl ?_
      refine w_gr hL.gm rfl (by decide) rfl (m62) ?_
      refine w_ic ?_
      refine w_bp ?_
      refine w_iln rfl ?_
      refine w_mul ⟨by show (-2147483648 : Int) ≤ 9 * i; omega, by show 9 * i < (2147483648 : Int); omega⟩ ?_
      refine w_add ⟨by show (-2147483648 : Int) ≤ 4 + (9 * i); omega, by show 4 + (9 * i) < (2147483648 : Int); omega⟩ ?_
      refine w_iln rfl ?_
      refine w_add ⟨by show (-2147483648 : Int) ≤ (4 + (9 * i)) + 4; omega, by show (4 + (9 * i)) + 4 < (2147483648 : Int); omega⟩ ?_
      refine w_iald (v := (H (8 + 9 * i.toNat))) hL.gs rfl (by show (0 : Int) ≤ (4 + (9 * i)) + 4; omega) (by show (4 + (9 * i)) + 4 < ((537 : Nat) : Int); omega) ((congrArg (M2.1 s) (show ((4 + (9 * i)) + 4).toNat = 8 + 9 * i.toNat by omega)).trans ((hM2.2.2.1 (8 + 9 * i.toNat) (Or.inl (by omega))).trans (hL.vn (by omega)))) ?_
      refine w_iret (fun q => by cases q) ?_
      refine w_cmge (fun c2 => ?_) (fun c2 => ?_)
      · skip
        refine w_ic ?_
        refine w_or ?_
        intro z3 hz3 ez3
        refine w_isn ?_
        show wz _ _ _ _ [some (.inr (.inr (some m))), some (.inl z3), some (.inl i)] _ _ _ _ _
        refine w_ii rfl ⟨by show (-2147483648 : Int) ≤ i + 1; omega, by show i + 1 < (2147483648 : Int); omega⟩ ?_
        show wz _ _ _ _ [some (.inr (.inr (some m))), some (.inl z3), some (.inl (i + 1))] _ _ _ _ _
        refine w_goto ?_
        have ez : z3 = ye_ob (fun t => if (ye_y0 H).2.2.2.2 t 6 < H (8 + 9 * t) then 1 else 0) (i + 1).toNat := by
          rw [et]; show _ = (Int32.ofInt (ye_ob (fun t => if (ye_y0 H).2.2.2.2 t 6 < H (8 + 9 * t) then 1 else 0) i.toNat) ||| Int32.ofInt (Int32.ofInt ((fun t => if (ye_y0 H).2.2.2.2 t 6 < H (8 + 9 * t) then 1 else 0) i.toNat) <<< (Int32.ofInt ((i.toNat : Nat) : Int) &&& 31)).toInt).toInt
          rw [ei]
          show _ = (Int32.ofInt (ye_ob (fun t => if (ye_y0 H).2.2.2.2 t 6 < H (8 + 9 * t) then 1 else 0) i.toNat) ||| Int32.ofInt (Int32.ofInt (if (ye_y0 H).2.2.2.2 i.toNat 6 < H (8 + 9 * i.toNat) then 1 else 0) <<< (Int32.ofInt i &&& 31)).toInt).toInt
          rw [if_neg (by omega), ez3, show (Int32.ofInt (Int32.ofInt 0 <<< (Int32.ofInt i &&& 31)).toInt) = Int32.ofInt 0 from ye_sh0]
        rw [ez]
        exact ih (i + 1) _ _ (by omega) (by omega) h
      · skip
        refine w_ic ?_
        refine w_iln rfl ?_
        refine w_shl ?_
        intro z4 hz4 ez4
        refine w_goto ?_
        refine w_or ?_
        intro z5 hz5 ez5
        obtain rfl : z5 = rv_bs (ye_ob (fun t => if (ye_y0 H).2.2.2.2 t 6 < H (8 + 9 * t) then 1 else 0) i.toNat) i := by rw [ez5, ez4]; rfl
        refine w_isn ?_
        show wz _ _ _ _ [some (.inr (.inr (some m))), some (.inl (rv_bs (ye_ob (fun t => if (ye_y0 H).2.2.2.2 t 6 < H (8 + 9 * t) then 1 else 0) i.toNat) i)), some (.inl i)] _ _ _ _ _
        refine w_ii rfl ⟨by show (-2147483648 : Int) ≤ i + 1; omega, by show i + 1 < (2147483648 : Int); omega⟩ ?_
        show wz _ _ _ _ [some (.inr (.inr (some m))), some (.inl (rv_bs (ye_ob (fun t => if (ye_y0 H).2.2.2.2 t 6 < H (8 + 9 * t) then 1 else 0) i.toNat) i)), some (.inl (i + 1))] _ _ _ _ _
        refine w_goto ?_
        have ez : (rv_bs (ye_ob (fun t => if (ye_y0 H).2.2.2.2 t 6 < H (8 + 9 * t) then 1 else 0) i.toNat) i) = ye_ob (fun t => if (ye_y0 H).2.2.2.2 t 6 < H (8 + 9 * t) then 1 else 0) (i + 1).toNat := by
          rw [et]; show _ = (Int32.ofInt (ye_ob (fun t => if (ye_y0 H).2.2.2.2 t 6 < H (8 + 9 * t) then 1 else 0) i.toNat) ||| Int32.ofInt (Int32.ofInt ((fun t => if (ye_y0 H).2.2.2.2 t 6 < H (8 + 9 * t) then 1 else 0) i.toNat) <<< (Int32.ofInt ((i.toNat : Nat) : Int) &&& 31)).toInt).toInt
          rw [ei]
          show _ = (Int32.ofInt (ye_ob (fun t => if (ye_y0 H).2.2.2.2 t 6 < H (8 + 9 * t) then 1 else 0) i.toNat) ||| Int32.ofInt (Int32.ofInt (if (ye_y0 H).2.2.2.2 i.toNat 6 < H (8 + 9 * i.toNat) then 1 else 0) <<< (Int32.ofInt i &&& 31)).toInt).toInt
          rw [if_pos (by omega)]; rfl
        rw [ez]
        exact ih (i + 1) _ _ (by omega) (by omega) h
theorem r_X12_thirstyC {G : mj_G} {M : mj_M} {s m bf : Nat} {H : Nat → Int} {Q : mj_P} {d : Nat} (hL : yq_L G M s m H) (gb : G bf = (64100, 135)) (m45 : M.2.2 m 45 = some bf) (hH : ye_H2 H) (h : ∀ M1, rq_K s m bf M M1 → Q (some (.inl (lr_thirsty H))) G M1) : mj_R mj_tab (d + 6) 248 [.inr (.inr (some m))] G M Q := by
  have nbs : bf ≠ s := hn_ne gb hL.gs (by decide)
  have nbm : bf ≠ m := hn_ne gb hL.gm (by decide)
  have nms : m ≠ s := hL.sm.symm
  have h0 := hH.1.1
  refine ⟨Nat.le_of_ble_eq_true rfl, ?_⟩
  show wz (d + 5) mt_X12_thirsty.2.2.2.2.1 _ mt_X12_thirsty.2.2.2.2.1 [some (.inr (.inr (some m))), none, none] [] G M _ _
  refine w_aln rfl ?_
  refine w_ic ?_
  refine w_pi hL.gm rfl (by decide) rfl (fun q => by cases q) ?_
  refine w_aln rfl ?_
  refine w_gr hL.gm rfl (by decide) rfl (hL.m6) ?_
  refine w_ic ?_
  refine w_iald (v := (H 0)) hL.gs rfl (by show (0 : Int) ≤ 0; omega) (by show 0 < ((537 : Nat) : Int); omega) ((congrFun (wz_c hL.sm) _).trans ((congrArg (M.1 s) (show (0 : Int).toNat = 0 by omega)).trans (hL.vn (by omega)))) ?_
  refine w_ifne (fun c1 => ?_) (fun c1 => ?_)
  · skip
    refine w_aln rfl ?_
    refine w_cv (st := []) rfl hL.gm rfl (Nat.le_of_ble_eq_true rfl) (fun kk h => h) (r_X12_thinksC (M0 := mj_p0 M m 0 0) (d := d + 3) hL.gm hL.gs gb hL.m6 m45 (fun M1 t1 t2 t3 => ?_))
    have hM : rq_M s m bf M M1 := ⟨t1, fun a a1 a2 a3 => (t2 a a3).trans (wz_c a2), fun j _ => (congrFun (t2 s nbs.symm) j).trans (congrFun (wz_c hL.sm) j), fun k k0 _ _ _ _ => (congrFun (t2 m nbm.symm) k).trans (hn_n (Or.inr k0)), fun k hk => (t3 k hk).trans (congrFun (wz_c hL.sm) _)⟩
    have m6 : M1.2.2 m 6 = some s := by rw [t1]; exact hL.m6
    refine w_aln rfl ?_
    refine w_ic ?_
    refine w_cv (st := []) rfl hL.gm rfl (Nat.le_of_ble_eq_true rfl) (fun kk h => h) (r_X12_wholeYear0 (d := d) (hM.L hL) hH (fun M2 hY => ?_))
    have hM2 := hM.yr hY nbs nbm
    have m62 : M2.2.2 m 6 = some s := by rw [hM2.1]; exact hL.m6
    refine w_ic ?_
    refine w_isn ?_
    show wz _ _ _ _ [some (.inr (.inr (some m))), some (.inl 0), none] _ _ _ _ _
    refine w_ic ?_
    refine w_isn ?_
    show wz _ _ _ _ [some (.inr (.inr (some m))), some (.inl 0), some (.inl 0)] _ _ _ _ _
    refine r_thirstyB (d := d + 3) hL h0 hM2 hY (H 0).toNat 0 _ _ (by omega) (by decide) ?_
    refine w_aln rfl ?_
    refine w_cv (st := []) rfl hL.gm rfl (Nat.le_of_ble_eq_true rfl) (fun kk h => h) (r_X12_forgetsC (M0 := M2) (d := d + 3) hL.gm hL.gs gb (by rw [hM2.1]; exact hL.m6) (by rw [hM2.1]; exact m45) (fun M9 f1 f2 f3 => ?_))
    have hK := hM2.end nbs nms f1 f2 f3
    refine w_iln rfl ?_
    exact w_iret (fun q => by cases q) (by have q := h _ hK; unfold lr_thirsty at q; rw [if_neg (by omega)] at q; exact q)
  · skip
    refine w_ic ?_
    have hK : rq_K s m bf M (mj_p0 M m 0 0) := ⟨rfl, fun a _ a2 _ => wz_c a2, fun j _ => congrFun (wz_c hL.sm) j, fun k k0 _ _ _ _ => hn_n (Or.inr k0)⟩
    exact w_iret (fun q => by cases q) (by have q := h _ hK; unfold lr_thirsty at q; rw [if_pos (by omega)] at q; exact q)
theorem r_X12_drawnC {G : mj_G} {M : mj_M} {s m bf : Nat} {H : Nat → Int} {Q : mj_P} {d : Nat} (hL : yq_L G M s m H) (gb : G bf = (64100, 135)) (m45 : M.2.2 m 45 = some bf) (hH : ye_H2 H) {z : Int} (h : ∀ M1, rq_K s m bf M M1 → Q (some (.inl (lr_drawn H z))) G M1) : mj_R mj_tab (d + 6) 182 [.inr (.inr (some m)), .inl z] G M Q := by
  have nbs : bf ≠ s := hn_ne gb hL.gs (by decide)
  have nbm : bf ≠ m := hn_ne gb hL.gm (by decide)
  have nms : m ≠ s := hL.sm.symm
  have h0 := hH.1.1
  refine ⟨Nat.le_of_ble_eq_true rfl, ?_⟩
  show wz (d + 5) mt_X12_drawn.2.2.2.2.1 _ mt_X12_drawn.2.2.2.2.1 [some (.inr (.inr (some m))), some (.inl z), none] [] G M _ _
  refine w_aln rfl ?_
  refine w_ic ?_
  refine w_pi hL.gm rfl (by decide) rfl (fun q => by cases q) ?_
  refine w_aln rfl ?_
  refine w_gr hL.gm rfl (by decide) rfl (hL.m6) ?_
  refine w_ic ?_
  refine w_iald (v := (H 0)) hL.gs rfl (by show (0 : Int) ≤ 0; omega) (by show 0 < ((537 : Nat) : Int); omega) ((congrFun (wz_c hL.sm) _).trans ((congrArg (M.1 s) (show (0 : Int).toNat = 0 by omega)).trans (hL.vn (by omega)))) ?_
  refine w_ifne (fun c1 => ?_) (fun c1 => ?_)
  · skip
    refine w_aln rfl ?_
    refine w_cv (st := []) rfl hL.gm rfl (Nat.le_of_ble_eq_true rfl) (fun kk h => h) (r_X12_thinksC (M0 := mj_p0 M m 0 0) (d := d + 3) hL.gm hL.gs gb hL.m6 m45 (fun M1 t1 t2 t3 => ?_))
    have hM : rq_M s m bf M M1 := ⟨t1, fun a a1 a2 a3 => (t2 a a3).trans (wz_c a2), fun j _ => (congrFun (t2 s nbs.symm) j).trans (congrFun (wz_c hL.sm) j), fun k k0 _ _ _ _ => (congrFun (t2 m nbm.symm) k).trans (hn_n (Or.inr k0)), fun k hk => (t3 k hk).trans (congrFun (wz_c hL.sm) _)⟩
    have m6 : M1.2.2 m 6 = some s := by rw [t1]; exact hL.m6
    refine w_aln rfl ?_
    refine w_iln rfl ?_
    refine w_pi hL.gm rfl (by decide) rfl (fun q => by cases q) ?_
    have hM3 : rq_M s m bf M (mj_p0 M1 m 47 z) := ⟨hM.1, fun a a1 a2 a3 => (wz_c a2).trans (hM.2.1 a a1 a2 a3), fun j hj => (congrFun (wz_c hL.sm) j).trans (hM.2.2.1 j hj), fun k k0 k1 k2 k3 k4 => (hn_n (Or.inr k4)).trans (hM.2.2.2.1 k k0 k1 k2 k3 k4), fun k hk => (congrFun (wz_c nbm) k).trans (hM.2.2.2.2 k hk)⟩
    refine w_aln rfl ?_
    refine w_ic ?_
    refine w_cv (st := []) rfl hL.gm rfl (Nat.le_of_ble_eq_true rfl) (fun kk h => h) (r_X12_wholeYear1 (d := d) (hM3.L hL) hH hn_s (fun M2 hY => ?_))
    have hM2 := hM3.yr hY nbs nbm
    have m62 : M2.2.2 m 6 = some s := by rw [hM2.1]; exact hL.m6
    refine w_aln rfl ?_
    refine w_gr hL.gm rfl (by decide) rfl (m62) ?_
    refine w_sp ?_
    refine w_iald (v := ((ye_yd H z).1 224)) hL.gs rfl (by show (0 : Int) ≤ 224; omega) (by show 224 < ((537 : Nat) : Int); omega) (hY.g (by decide) (by decide)) ?_
    refine w_isn ?_
    show wz _ _ _ _ [some (.inr (.inr (some m))), some (.inl z), some (.inl ((ye_yd H z).1 224))] _ _ _ _ _
    refine w_aln rfl ?_
    refine w_cv (st := []) rfl hL.gm rfl (Nat.le_of_ble_eq_true rfl) (fun kk h => h) (r_X12_forgetsC (M0 := M2) (d := d + 3) hL.gm hL.gs gb (by rw [hM2.1]; exact hL.m6) (by rw [hM2.1]; exact m45) (fun M9 f1 f2 f3 => ?_))
    have hK := hM2.end nbs nms f1 f2 f3
    refine w_iln rfl ?_
    exact w_iret (fun q => by cases q) (by have q := h _ hK; unfold lr_drawn at q; rw [if_neg (by omega)] at q; exact q)
  · skip
    refine w_sp ?_
    have hK : rq_K s m bf M (mj_p0 M m 0 0) := ⟨rfl, fun a _ a2 _ => wz_c a2, fun j _ => congrFun (wz_c hL.sm) j, fun k k0 _ _ _ _ => hn_n (Or.inr k0)⟩
    exact w_iret (fun q => by cases q) (by have q := h _ hK; unfold lr_drawn at q; rw [if_pos (by omega)] at q; exact q)
end
