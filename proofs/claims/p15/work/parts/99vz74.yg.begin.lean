/-! ===== a YEAR begins, goes on (laid by a program) ===== -/
section YG
variable {G : mj_G} {M M0 : mj_M} {u : Nat → Nat} {y la lb lc oa pl ta ba wa dl fa sa ca : Nat} {yr tr br : Nat → Nat} {H : Nat → Int} {M1 : mj_M}
theorem yc_L.mv (h : yc_L G M0 u y la lb lc oa yr pl ta ba wa tr br dl fa sa ca H) (e2 : M1.2 = M0.2) (e1 : ∀ a t n, G a = (t, n) → (t = 1004 ∨ t = 26100 ∨ t = 28100 ∨ t = 29100 ∨ t = 16100 ∨ t = 17100 ∨ t = 18100) → M1.1 a = M0.1 a) : yc_L G M1 u y la lb lc oa yr pl ta ba wa tr br dl fa sa ca H := ⟨h.hu, h.gy, h.gla, h.glb, h.glc, h.goa, h.gyr, h.iyr, h.gpl, h.gta, h.gba, h.gwa, h.gtr, h.gbr, h.gdl, h.gfa, h.gsa, h.gca, by rw [e2]; exact h.y3, by rw [e2]; exact h.y4, by rw [e2]; exact h.y5, by rw [e2]; exact h.y6, fun t ht => by rw [e2]; exact h.ot t ht, by rw [e2]; exact h.p1, by rw [e2]; exact h.p2, by rw [e2]; exact h.p3, fun t ht => by rw [e2]; exact h.tt t ht, fun t ht => by rw [e2]; exact h.bt t ht, by rw [e2]; exact h.d0, by rw [e2]; exact h.d1, by rw [e2]; exact h.d2, (congrFun (e1 _ _ _ h.gpl (by decide)) 4).trans h.n4, (congrFun (e1 _ _ _ h.gpl (by decide)) 6).trans h.n6, (congrFun (e1 _ _ _ h.gpl (by decide)) 7).trans h.n7, (congrFun (e1 _ _ _ h.gpl (by decide)) 8).trans h.n8, fun t v ht hv => (congrFun (e1 _ _ _ (h.gtr t ht) (by decide)) v).trans (h.nt t v ht hv), fun v hv => (congrFun (e1 _ _ _ h.gwa (by decide)) v).trans (h.nw v hv), fun t v ht hv => (congrFun (e1 _ _ _ (h.gbr t ht) (by decide)) v).trans (h.nb t v ht hv), fun v hv => (congrFun (e1 _ _ _ h.gfa (by decide)) v).trans (h.nf v hv), fun v hv => (congrFun (e1 _ _ _ h.gsa (by decide)) v).trans (h.ns v hv), fun v hv => (congrFun (e1 _ _ _ h.gca (by decide)) v).trans (h.nc v hv)⟩
theorem yc_S.re : yc_S y la lb lc yr M (fun j => M.1 y (ye_f j)) (M.1 la) (M.1 lb) (M.1 lc) (fun t => M.1 (yr t)) M := ⟨rfl, fun _ _ _ _ _ _ => rfl, rfl, fun _ _ _ => rfl, fun _ _ => rfl, fun _ _ => rfl, fun _ _ => rfl, fun _ _ _ _ => rfl⟩
end YG
/-- a YEAR's numbers and rows as it begins -/
def ye_z0 (H : Nat → Int) : Nat → Int := fun j => if j = 223 then 8 else if j = 225 then H 2 else 0
def ye_zR (H : Nat → Int) : Nat → Nat → Int := fun t w => if w = 1 ∧ t < 8 then H (7 + 9 * t) else 0
theorem r_stI {G : mj_G} {M0 : mj_M} {u : Nat → Nat} {y la lb lc oa pl ta ba wa dl fa sa ca : Nat} {yr tr br : Nat → Nat} {H : Nat → Int} {g A B C : Nat → Int} {R : Nat → Nat → Int} {Q : mj_P} {d : Nat} (hL : yc_L G M0 u y la lb lc oa yr pl ta ba wa tr br dl fa sa ca H) {i : Int} (hi : 0 ≤ i ∧ i ≤ 7) : ∀ (n : Nat) (w : Int) (r : Nat → Int) (M : mj_M) (cb sb : Nat), w + n = 11 → 0 ≤ w → yc_S y la lb lc yr M0 g A B C (ye_ru R i.toNat r) M → (∀ j : Nat, j < 11 → (j : Int) < w → r j = 0) → (∀ r M, yc_S y la lb lc yr M0 g A B C (ye_ru R i.toNat r) M → (∀ j, j < 11 → r j = 0) → wz d mt_X10_start.2.2.2.2.1 Q (mt_X10_start.2.2.2.2.1.drop 53) [some (.inr (.inr (some y))), some (.inr (.inr (some pl))), some (.inl i), some (.inl 11)] [] G M cb sb) → wz d mt_X10_start.2.2.2.2.1 Q (mt_X10_start.2.2.2.2.1.drop 41) [some (.inr (.inr (some y))), some (.inr (.inr (some pl))), some (.inl i), some (.inl w)] [] G M cb sb := by
  intro n
  induction n with
  | zero =>
    intro w r M cb sb e w0 hC hz h
    obtain rfl : w = 11 := by omega
    refine w_iln rfl ?_
    refine w_bp ?_
    refine w_cmge (fun c1 => ?_) (fun c1 => ?_)
    · skip
      exact h _ _ hC (fun j hj => hz j hj (by omega))
    · exfalso; omega
  | succ n ih =>
    intro w r M cb sb e w0 hC hz h
    refine w_iln rfl ?_
    refine w_bp ?_
    refine w_cmge (fun c1 => ?_) (fun c1 => ?_)
    · exfalso; omega
    · skip
      refine w_aln rfl ?_
      refine w_gr hL.gy hL.hu.2.1 (by decide) rfl (hC.rf hL.y6) ?_
      refine w_iln rfl ?_
      refine w_aald hL.goa hL.hu.2.2.2.2.2.2.1 (by show (0 : Int) ≤ i; omega) (by show i < ((8 : Nat) : Int); omega) (hC.rf (hL.ot _ (by show i.toNat < 8; omega))) ?_
      refine w_iln rfl ?_
      refine w_ic ?_
      refine w_iast (hL.gyr _ (by show i.toNat < 8; omega)) hL.hu.2.2.2.2.2.1 (hL.hu.1 5 (by decide)) (by show (0 : Int) ≤ w; omega) (by show w < ((11 : Nat) : Int); omega) ?_
      have hC2 := hC.pr (w := w.toNat) (v := 0) hL (by show i.toNat < 8; omega)
      refine w_ii rfl ⟨by show (-2147483648 : Int) ≤ w + 1; omega, by show w + 1 < (2147483648 : Int); omega⟩ ?_
      show wz _ _ _ _ [some (.inr (.inr (some y))), some (.inr (.inr (some pl))), some (.inl i), some (.inl (w + 1))] _ _ _ _ _
      refine w_goto ?_
      refine ih (w + 1) _ _ _ _ (by omega) (by omega) hC2 (fun j hj hjw => ?_) h
      by_cases e9 : j = w.toNat
      · rw [e9, rv_up_s]
      · rw [rv_up_n e9]; exact hz j hj (by omega)
theorem r_stO {G : mj_G} {M0 : mj_M} {u : Nat → Nat} {y la lb lc oa pl ta ba wa dl fa sa ca : Nat} {yr tr br : Nat → Nat} {H : Nat → Int} {g A B C : Nat → Int} {Q : mj_P} {d : Nat} (hL : yc_L G M0 u y la lb lc oa yr pl ta ba wa tr br dl fa sa ca H) : ∀ (n : Nat) (i : Int) (z : Option mj_V) (R : Nat → Nat → Int) (M : mj_M) (cb sb : Nat), i + n = 8 → 0 ≤ i → yc_S y la lb lc yr M0 g A B C R M → (∀ s : Nat, s < 8 → (s : Int) < i → ∀ w, w < 11 → R s w = ye_zR H s w) → (∀ M, yc_S y la lb lc yr M0 g A B C (ye_zR H) M → Q none G M) → wz d mt_X10_start.2.2.2.2.1 Q (mt_X10_start.2.2.2.2.1.drop 36) [some (.inr (.inr (some y))), some (.inr (.inr (some pl))), some (.inl i), z] [] G M cb sb := by
  intro n
  induction n with
  | zero =>
    intro i z R M cb sb e i0 hC hz h
    obtain rfl : i = 8 := by omega
    refine w_iln rfl ?_
    refine w_bp ?_
    refine w_cmge (fun c1 => ?_) (fun c1 => ?_)
    · skip
      exact w_ret (h _ (hC.cg (fun _ _ _ => rfl) (fun t w ht hw => hz t ht (by omega) w hw)))
    · exfalso; omega
  | succ n ih =>
    intro i z R M cb sb e i0 hC hz h
    refine w_iln rfl ?_
    refine w_bp ?_
    refine w_cmge (fun c1 => ?_) (fun c1 => ?_)
    · exfalso; omega
    · skip
      refine w_ic ?_
      refine w_isn ?_
      show wz _ _ _ _ [some (.inr (.inr (some y))), some (.inr (.inr (some pl))), some (.inl i), some (.inl 0)] _ _ _ _ _
      refine r_stI (d := d) hL (by omega) 11 0 _ _ _ _ (by decide) (by decide) (hC.op i.toNat) (fun j _ q => by omega) (fun r1 M1 hC1 hz1 => ?_)
      refine w_aln rfl ?_
      refine w_gr hL.gy hL.hu.2.1 (by decide) rfl (hC1.rf hL.y6) ?_
      refine w_iln rfl ?_
      refine w_aald hL.goa hL.hu.2.2.2.2.2.2.1 (by show (0 : Int) ≤ i; omega) (by show i < ((8 : Nat) : Int); omega) (hC1.rf (hL.ot _ (by show i.toNat < 8; omega))) ?_
      refine w_ic ?_
      refine w_aln rfl ?_
      refine w_gr hL.gpl rfl (by decide) rfl (hC1.rf hL.p1) ?_
      refine w_iln rfl ?_
      refine w_aald hL.gta rfl (by show (0 : Int) ≤ i; omega) (by show i < ((8 : Nat) : Int); omega) (hC1.rf (hL.tt _ (by show i.toNat < 8; omega))) ?_
      refine w_ic ?_
      refine w_iald (v := (H (7 + 9 * i.toNat))) (hL.gtr _ (by show i.toNat < 8; omega)) rfl (by show (0 : Int) ≤ 3; omega) (by show 3 < ((9 : Nat) : Int); omega) (((congrFun (hC1.oo hL (hL.gtr _ (by show i.toNat < 8; omega)) (by decide)) _).trans (hL.nt _ 3 (by show i.toNat < 8; omega) (by decide))).trans (congrArg H (show 4 + 9 * i.toNat + 3 = 7 + 9 * i.toNat by omega))) ?_
      refine w_iast (hL.gyr _ (by show i.toNat < 8; omega)) hL.hu.2.2.2.2.2.1 (hL.hu.1 5 (by decide)) (by show (0 : Int) ≤ 1; omega) (by show 1 < ((11 : Nat) : Int); omega) ?_
      have hC2 := hC1.pr (w := (1 : Int).toNat) (v := (H (7 + 9 * i.toNat))) hL (by show i.toNat < 8; omega)
      refine w_ii rfl ⟨by show (-2147483648 : Int) ≤ i + 1; omega, by show i + 1 < (2147483648 : Int); omega⟩ ?_
      show wz _ _ _ _ [some (.inr (.inr (some y))), some (.inr (.inr (some pl))), some (.inl (i + 1)), some (.inl 11)] _ _ _ _ _
      refine w_goto ?_
      refine ih (i + 1) _ _ _ _ _ (by omega) (by omega) hC2 (fun s hs hsi w hw => ?_) h
      by_cases e9 : s = i.toNat
      · subst e9
        rw [ye_ru_s]
        by_cases e8 : w = 1
        · subst e8; exact rv_up_s.trans (if_pos ⟨rfl, hs⟩).symm
        · refine (rv_up_n e8).trans ((hz1 w hw).trans ?_); unfold ye_zR; rw [if_neg (fun q => e8 q.1)]
      · rw [ye_ru_n e9]; exact hz s hs (by omega) w hw
theorem r_X10_start {G : mj_G} {M0 : mj_M} {u : Nat → Nat} {y la lb lc oa pl ta ba wa dl fa sa ca : Nat} {yr tr br : Nat → Nat} {H : Nat → Int} {Q : mj_P} {d : Nat} (hL : yc_L G M0 u y la lb lc oa yr pl ta ba wa tr br dl fa sa ca H) (h : ∀ M1, yc_S y la lb lc yr (mj_p0 M0 y 0 1) (ye_z0 H) (M0.1 la) (M0.1 lb) (M0.1 lc) (ye_zR H) M1 → Q none G M1) : mj_R mj_tab (d + 1) 108 [.inr (.inr (some y)), .inr (.inr (some pl))] G M0 Q := by
  refine ⟨Nat.le_of_ble_eq_true rfl, ?_⟩
  show wz d mt_X10_start.2.2.2.2.1 _ mt_X10_start.2.2.2.2.1 [some (.inr (.inr (some y))), some (.inr (.inr (some pl))), none, none] [] G M0 _ _
  refine w_aln rfl ?_
  refine w_ic ?_
  refine w_pi hL.gy hL.hu.2.1 (hL.hu.1 0 (by decide)) rfl (fun _ => Or.inr rfl) ?_
  have ny : ∀ a t n, G a = (t, n) → (t = 1004 ∨ t = 26100 ∨ t = 28100 ∨ t = 29100 ∨ t = 16100 ∨ t = 17100 ∨ t = 18100) → (mj_p0 M0 y 0 1).1 a = M0.1 a := fun a t n ga ht => wz_c (hn_ne ga hL.gy (fun q => hL.hu.o ht (by decide) q.symm))
  have hL1 := hL.mv (M1 := mj_p0 M0 y 0 1) rfl ny
  have eA : (mj_p0 M0 y 0 1).1 la = M0.1 la := wz_c hL.nya.symm
  have eB : (mj_p0 M0 y 0 1).1 lb = M0.1 lb := wz_c hL.nyb.symm
  have eC : (mj_p0 M0 y 0 1).1 lc = M0.1 lc := wz_c hL.nyc.symm
  rw [← eA, ← eB, ← eC] at h
  clear hL ny eA eB eC
  revert h hL1
  generalize mj_p0 M0 y 0 1 = M1
  intro h hL
  have hC : yc_S y la lb lc yr M1 (fun j => M1.1 y (ye_f j)) (M1.1 la) (M1.1 lb) (M1.1 lc) (fun t => M1.1 (yr t)) M1 := yc_S.re
  revert hC
  generalize (fun j => M1.1 y (ye_f j)) = g
  intro hC
  refine w_aln rfl ?_
  refine w_ic ?_
  refine w_pi hL.gy hL.hu.2.1 (hL.hu.1 0 (by decide)) rfl (fun q => by cases q) ?_
  have hC1 := hC.pf (j := 222) (v := 0) hL (by decide) (by decide) rfl
  refine w_aln rfl ?_
  refine w_ic ?_
  refine w_pi hL.gy hL.hu.2.1 (hL.hu.1 0 (by decide)) rfl (fun q => by cases q) ?_
  have hC2 := hC1.pf (j := 224) (v := 0) hL (by decide) (by decide) rfl
  refine w_aln rfl ?_
  refine w_bp ?_
  refine w_pi hL.gy hL.hu.2.1 (hL.hu.1 0 (by decide)) rfl (fun q => by cases q) ?_
  have hC3 := hC2.pf (j := 223) (v := 8) hL (by decide) (by decide) rfl
  refine w_aln rfl ?_
  refine w_aln rfl ?_
  refine w_gi hL.gpl rfl (by decide) rfl ((congrFun (hC3.oo hL hL.gpl (by decide)) 7).trans hL.n7) ?_
  refine w_pi hL.gy hL.hu.2.1 (hL.hu.1 0 (by decide)) rfl (fun q => by cases q) ?_
  have hC4 := hC3.pf (j := 225) (v := (H 2)) hL (by decide) (by decide) rfl
  refine w_aln rfl ?_
  refine w_ic ?_
  refine w_pi hL.gy hL.hu.2.1 (hL.hu.1 0 (by decide)) rfl (fun q => by cases q) ?_
  have hC5 := hC4.pf (j := 226) (v := 0) hL (by decide) (by decide) rfl
  refine w_aln rfl ?_
  refine w_ic ?_
  refine w_pi hL.gy hL.hu.2.1 (hL.hu.1 0 (by decide)) rfl (fun q => by cases q) ?_
  have hC6 := hC5.pf (j := 227) (v := 0) hL (by decide) (by decide) rfl
  refine w_aln rfl ?_
  refine w_ic ?_
  refine w_pi hL.gy hL.hu.2.1 (hL.hu.1 0 (by decide)) rfl (fun q => by cases q) ?_
  have hC7 := hC6.pf (j := 228) (v := 0) hL (by decide) (by decide) rfl
  refine w_aln rfl ?_
  refine w_ic ?_
  refine w_pi hL.gy hL.hu.2.1 (hL.hu.1 0 (by decide)) rfl (fun q => by cases q) ?_
  have hC8 := hC7.pf (j := 229) (v := 0) hL (by decide) (by decide) rfl
  refine w_aln rfl ?_
  refine w_ic ?_
  refine w_pi hL.gy hL.hu.2.1 (hL.hu.1 0 (by decide)) rfl (fun q => by cases q) ?_
  have hC9 := hC8.pf (j := 230) (v := 0) hL (by decide) (by decide) rfl
  refine w_aln rfl ?_
  refine w_ic ?_
  refine w_pi hL.gy hL.hu.2.1 (hL.hu.1 0 (by decide)) rfl (fun q => by cases q) ?_
  have hC10 := hC9.pf (j := 231) (v := 0) hL (by decide) (by decide) rfl
  refine w_ic ?_
  refine w_isn ?_
  show wz _ _ _ _ [some (.inr (.inr (some y))), some (.inr (.inr (some pl))), some (.inl 0), none] _ _ _ _ _
  refine r_stO (d := d) hL 8 0 _ _ _ _ _ (by decide) (by decide) hC10 (fun s _ q => by omega) (fun M2 hC2 => h M2 (hC2.cg ?_ (fun _ _ _ _ => rfl)))
  refine ye_10 ?_ ?_ ?_ ?_ ?_ ?_ ?_ ?_ ?_ ?_
  · exact ((rv_up_n (by decide)).trans ((rv_up_n (by decide)).trans ((rv_up_n (by decide)).trans ((rv_up_n (by decide)).trans ((rv_up_n (by decide)).trans ((rv_up_n (by decide)).trans ((rv_up_n (by decide)).trans ((rv_up_n (by decide)).trans ((rv_up_n (by decide)).trans (rv_up_s)))))))))).trans (show (0 : Int) = ye_z0 H 222 from rfl)
  · exact ((rv_up_n (by decide)).trans ((rv_up_n (by decide)).trans ((rv_up_n (by decide)).trans ((rv_up_n (by decide)).trans ((rv_up_n (by decide)).trans ((rv_up_n (by decide)).trans ((rv_up_n (by decide)).trans (rv_up_s)))))))).trans (show (8 : Int) = ye_z0 H 223 from rfl)
  · exact ((rv_up_n (by decide)).trans ((rv_up_n (by decide)).trans ((rv_up_n (by decide)).trans ((rv_up_n (by decide)).trans ((rv_up_n (by decide)).trans ((rv_up_n (by decide)).trans ((rv_up_n (by decide)).trans ((rv_up_n (by decide)).trans (rv_up_s))))))))).trans (show (0 : Int) = ye_z0 H 224 from rfl)
  · exact ((rv_up_n (by decide)).trans ((rv_up_n (by decide)).trans ((rv_up_n (by decide)).trans ((rv_up_n (by decide)).trans ((rv_up_n (by decide)).trans ((rv_up_n (by decide)).trans (rv_up_s))))))).trans (show H 2 = ye_z0 H 225 from rfl)
  · exact ((rv_up_n (by decide)).trans ((rv_up_n (by decide)).trans ((rv_up_n (by decide)).trans ((rv_up_n (by decide)).trans ((rv_up_n (by decide)).trans (rv_up_s)))))).trans (show (0 : Int) = ye_z0 H 226 from rfl)
  · exact ((rv_up_n (by decide)).trans ((rv_up_n (by decide)).trans ((rv_up_n (by decide)).trans ((rv_up_n (by decide)).trans (rv_up_s))))).trans (show (0 : Int) = ye_z0 H 227 from rfl)
  · exact ((rv_up_n (by decide)).trans ((rv_up_n (by decide)).trans ((rv_up_n (by decide)).trans (rv_up_s)))).trans (show (0 : Int) = ye_z0 H 228 from rfl)
  · exact ((rv_up_n (by decide)).trans ((rv_up_n (by decide)).trans (rv_up_s))).trans (show (0 : Int) = ye_z0 H 229 from rfl)
  · exact ((rv_up_n (by decide)).trans (rv_up_s)).trans (show (0 : Int) = ye_z0 H 230 from rfl)
  · exact (rv_up_s).trans (show (0 : Int) = ye_z0 H 231 from rfl)
  
abbrev ye_T := (Nat → Int) × (Nat → Int) × (Nat → Int) × (Nat → Int) × (Nat → Nat → Int)
def ye_mo (H : Nat → Int) (x : Int) (s : ye_T) : ye_T := (ye_mg H x s.1 s.2.2.2.2 s.2.1 s.2.2.1, rv_up s.2.1 (s.1 222).toNat (ye_le H s.2.2.2.2 (s.1 222).toNat).1, rv_up s.2.2.1 (s.1 222).toNat (ye_le H s.2.2.2.2 (s.1 222).toNat).2.1, rv_up s.2.2.2.1 (s.1 222).toNat (ye_le H s.2.2.2.2 (s.1 222).toNat).2.2, ye_mR H x s.1 s.2.2.2.2)
def ye_it (H : Nat → Int) (xs : Nat → Int) (s : ye_T) : Nat → ye_T
  | 0 => s
  | k + 1 => ye_mo H (xs k) (ye_it H xs s k)
abbrev ye_okT (H : Nat → Int) (s : ye_T) : Prop := ye_ok H s.1 s.2.1 s.2.2.1 s.2.2.2.1 s.2.2.2.2
/-- to whom the MONTHS done were let, alike -/
def ye_rl (s : ye_T) (A B C : Nat → Int) : Prop := ∀ j : Nat, j < 12 → (j : Int) < s.1 222 → A j = s.2.1 j ∧ B j = s.2.2.1 j ∧ C j = s.2.2.2.1 j
section YI
variable {H g A B C A2 B2 : Nat → Int} {R : Nat → Nat → Int} {x mi : Int} {s : ye_T} {xs : Nat → Int}
theorem ye_mo_okT (hH : ye_H H) (hk : ye_okT H s) (m0 : s.1 222 ≤ 11) (hx : 0 ≤ x ∧ x ≤ 99) : ye_okT H (ye_mo H x s) ∧ (ye_mo H x s).1 222 = s.1 222 + 1 := ye_mo_ok hH hk rfl ⟨hk.1.1, m0⟩ hx
theorem ye_it_ok (hH : ye_H H) (hk : ye_okT H s) (hx : ∀ k, 0 ≤ xs k ∧ xs k ≤ 99) : ∀ k : Nat, s.1 222 + k ≤ 12 → ye_okT H (ye_it H xs s k) ∧ (ye_it H xs s k).1 222 = s.1 222 + k
  | 0, _ => ⟨hk, (Int.add_zero _).symm⟩
  | k + 1, h => by
    have ih := ye_it_ok hH hk hx k (by omega)
    have q := ye_mo_okT (x := xs k) hH ih.1 (by omega) (hx k)
    exact ⟨q.1, by show (ye_mo H (xs k) (ye_it H xs s k)).1 222 = _; omega⟩
theorem ye_mg_c (hm : g 222 = mi) (m0 : 0 ≤ mi ∧ mi ≤ 11) (h : 0 < mi.toNat → A (mi.toNat - 1) = A2 (mi.toNat - 1) ∧ B (mi.toNat - 1) = B2 (mi.toNat - 1)) : ye_mg H x g R A B = ye_mg H x g R A2 B2 := by
  rcases hle : ye_le H R mi.toNat with ⟨L, O, P⟩
  rw [ye_mg_e hm hle, ye_mg_e hm hle]
  have eb : ∀ k, ye_br H A B mi.toNat k = ye_br H A2 B2 mi.toNat k := fun k => by
    unfold ye_br
    by_cases c : 0 < mi.toNat
    · rw [(h c).1, (h c).2]
    · rw [if_neg (fun q : 0 < mi.toNat ∧ _ => c q.1), if_neg (fun q : 0 < mi.toNat ∧ _ => c q.1)]
  have ec : ye_co H g A B mi.toNat L O = ye_co H g A2 B2 mi.toNat L O := by unfold ye_co; rw [eb, eb]
  have e1 : ye_g1 H g A B mi.toNat L O P = ye_g1 H g A2 B2 mi.toNat L O P := by unfold ye_g1; rw [ec]
  rw [e1]
theorem ye_ok.rl (hk : ye_okT H s) (h : ye_rl s A B C) : ye_ok H s.1 A B C s.2.2.2.2 := by
  obtain ⟨k1, k2, k3, k4, k5, k6, k7, k8, k9, k10, k11, k12, k13⟩ := hk
  refine ⟨k1, k2, k3, k4, k5, k6, k7, k8, k9, k10, k11, k12, fun j hj => ?_⟩
  obtain ⟨a, b, c⟩ := h j (by omega) hj
  rw [a, b, c]; exact k13 j hj
end YI
/-- the cells of a YEAR of the class hold s -/
def yc_T (y la lb lc : Nat) (yr : Nat → Nat) (M0 : mj_M) (s : ye_T) (M : mj_M) : Prop := ∃ A B C, yc_S y la lb lc yr M0 s.1 A B C s.2.2.2.2 M ∧ ye_rl s A B C
theorem r_nextT {G : mj_G} {M M0 : mj_M} {u : Nat → Nat} {y la lb lc oa pl ta ba wa dl fa sa ca : Nat} {yr tr br : Nat → Nat} {H : Nat → Int} {s : ye_T} {x : Int} {Q : mj_P} {d : Nat} (hL : yc_L G M0 u y la lb lc oa yr pl ta ba wa tr br dl fa sa ca H) (hT : yc_T y la lb lc yr M0 s M) (hH : ye_H H) (hk : ye_okT H s) (hm : s.1 222 ≤ 11) (hx : 0 ≤ x ∧ x ≤ 99) (h : ∀ M, yc_T y la lb lc yr M0 (ye_mo H x s) M → Q none G M) : mj_R mj_tab (d + 3) 103 [.inr (.inr (some y)), .inr (.inr (some pl)), .inr (.inr (some dl)), .inl x] G M Q := by
  obtain ⟨A, B, C, hC, hr⟩ := hT
  have h0 := hk.1.1
  refine r_X10_nextMonth (mi := s.1 222) hL hC rfl ⟨h0, hm⟩ hH (hk.rl hr) hx (fun A1 B1 C1 M1 eA eB eC hC1 => h M1 ⟨A1, B1, C1, ?_, fun j hj hjm => ?_⟩)
  · have e := ye_mg_c (H := H) (R := s.2.2.2.2) (x := x) (A := A) (B := B) (A2 := s.2.1) (B2 := s.2.2.1) (g := s.1) rfl ⟨h0, hm⟩ (fun c => by
      obtain ⟨a, b, -⟩ := hr ((s.1 222).toNat - 1) (by omega) (by omega)
      exact ⟨a, b⟩)
    rw [e] at hC1
    exact hC1
  · have e22 := (ye_mo_okT (x := x) hH hk hm hx).2
    rw [e22] at hjm
    rw [eA j hj, eB j hj, eC j hj]
    show rv_up A _ _ j = rv_up s.2.1 _ _ j ∧ rv_up B _ _ j = rv_up s.2.2.1 _ _ j ∧ rv_up C _ _ j = rv_up s.2.2.2.1 _ _ j
    by_cases c : j = (s.1 222).toNat
    · rw [c, rv_up_s, rv_up_s, rv_up_s, rv_up_s, rv_up_s, rv_up_s]; exact ⟨rfl, rfl, rfl⟩
    · rw [rv_up_n c, rv_up_n c, rv_up_n c, rv_up_n c, rv_up_n c, rv_up_n c]
      exact hr j hj (by omega)
theorem yc_T.m {y la lb lc : Nat} {yr : Nat → Nat} {M0 M : mj_M} {s : ye_T} (h : yc_T y la lb lc yr M0 s M) : M.1 y 1 = s.1 222 := by
  obtain ⟨A, B, C, hC, -⟩ := h
  exact hC.f (j := 222) (by decide) (by decide) rfl
theorem r_goC {G : mj_G} {M0 : mj_M} {u : Nat → Nat} {y la lb lc oa pl ta ba wa dl fa sa ca : Nat} {yr tr br : Nat → Nat} {H : Nat → Int} {s0 : ye_T} {n : Int} {Q : mj_P} {d : Nat} (hL : yc_L G M0 u y la lb lc oa yr pl ta ba wa tr br dl fa sa ca H) (hH : ye_H H) (hk : ye_okT H s0) (hn : 0 ≤ n ∧ n ≤ 12) {dn : Int} (hd : dn = if n < 12 - s0.1 222 then n else 12 - s0.1 222) : ∀ (f : Nat) (i : Int) (M : mj_M) (cb sb : Nat), i + f = dn → 0 ≤ i → yc_T y la lb lc yr M0 (ye_it H (fun _ => 0) s0 i.toNat) M → (∀ M, yc_T y la lb lc yr M0 (ye_it H (fun _ => 0) s0 dn.toNat) M → Q none G M) → wz (d + 3) mt_X10_goOn.2.2.2.2.1 Q (mt_X10_goOn.2.2.2.2.1.drop 2) [some (.inr (.inr (some y))), some (.inr (.inr (some pl))), some (.inr (.inr (some dl))), some (.inl n), some (.inl i)] [] G M cb sb := by
  have k0 := hk.1
  have hd2 : dn ≤ n ∧ dn ≤ 12 - s0.1 222 ∧ (dn = n ∨ dn = 12 - s0.1 222) := by rw [hd]; split <;> omega
  intro f
  induction f with
  | zero =>
    intro i M cb sb e i0 hT h
    obtain rfl : i = dn := by omega
    have hi2 : (ye_it H (fun _ => 0) s0 i.toNat).1 222 = s0.1 222 + i := by rw [(ye_it_ok hH hk (fun _ => ⟨Int.le_refl 0, by decide⟩) i.toNat (by omega)).2]; omega
    refine w_il rfl ?_
    refine w_iln rfl ?_
    refine w_cmge (fun c1 => ?_) (fun c1 => ?_)
    · skip
      exact w_ret (h _ hT)
    · skip
      refine w_aln rfl ?_
      refine w_gi hL.gy hL.hu.2.1 (by decide) rfl (hT.m.trans hi2) ?_
      refine w_bp ?_
      refine w_cmge (fun c2 => ?_) (fun c2 => ?_)
      · skip
        exact w_ret (h _ hT)
      · exfalso; omega
  | succ f ih =>
    intro i M cb sb e i0 hT h
    have hok := ye_it_ok hH hk (xs := fun _ => 0) (fun _ => ⟨Int.le_refl 0, by decide⟩) i.toNat (by omega)
    have hi2 : (ye_it H (fun _ => 0) s0 i.toNat).1 222 = s0.1 222 + i := by rw [hok.2]; omega
    have et : (i + 1).toNat = i.toNat + 1 := by omega
    refine w_il rfl ?_
    refine w_iln rfl ?_
    refine w_cmge (fun c1 => ?_) (fun c1 => ?_)
    · exfalso; omega
    · skip
      refine w_aln rfl ?_
      refine w_gi hL.gy hL.hu.2.1 (by decide) rfl (hT.m.trans hi2) ?_
      refine w_bp ?_
      refine w_cmge (fun c2 => ?_) (fun c2 => ?_)
      · exfalso; omega
      · skip
        refine w_aln rfl ?_
        refine w_aln rfl ?_
        refine w_aln rfl ?_
        refine w_ic ?_
        refine w_cv (st := []) rfl hL.gy hL.hu.2.1 (Nat.le_of_ble_eq_true rfl) (fun kk h => h) (r_nextT (d := d) hL hT hH hok.1 (by omega) ⟨Int.le_refl 0, by decide⟩ (fun M1 hT1 => ?_))
        refine w_ii rfl ⟨by show (-2147483648 : Int) ≤ i + 1; omega, by show i + 1 < (2147483648 : Int); omega⟩ ?_
        show wz _ _ _ _ [some (.inr (.inr (some y))), some (.inr (.inr (some pl))), some (.inr (.inr (some dl))), some (.inl n), some (.inl (i + 1))] _ _ _ _ _
        refine w_goto ?_
        exact ih (i + 1) _ _ _ (by omega) (by omega) (by rw [et]; exact hT1) h
theorem r_X10_goOn {G : mj_G} {M M0 : mj_M} {u : Nat → Nat} {y la lb lc oa pl ta ba wa dl fa sa ca : Nat} {yr tr br : Nat → Nat} {H : Nat → Int} {s0 : ye_T} {n : Int} {Q : mj_P} {d : Nat} (hL : yc_L G M0 u y la lb lc oa yr pl ta ba wa tr br dl fa sa ca H) (hT : yc_T y la lb lc yr M0 s0 M) (hH : ye_H H) (hk : ye_okT H s0) (hn : 0 ≤ n ∧ n ≤ 12) {dn : Int} (hd : dn = if n < 12 - s0.1 222 then n else 12 - s0.1 222) (h : ∀ M, yc_T y la lb lc yr M0 (ye_it H (fun _ => 0) s0 dn.toNat) M → Q none G M) : mj_R mj_tab (d + 4) 93 [.inr (.inr (some y)), .inr (.inr (some pl)), .inr (.inr (some dl)), .inl n] G M Q := by
  have k0 := hk.1
  have hd2 : 0 ≤ dn := by rw [hd]; split <;> omega
  refine ⟨Nat.le_of_ble_eq_true rfl, ?_⟩
  show wz (d + 3) mt_X10_goOn.2.2.2.2.1 _ mt_X10_goOn.2.2.2.2.1 [some (.inr (.inr (some y))), some (.inr (.inr (some pl))), some (.inr (.inr (some dl))), some (.inl n), none] [] G M _ _
  refine w_ic ?_
  refine w_is ?_
  show wz _ _ _ _ [some (.inr (.inr (some y))), some (.inr (.inr (some pl))), some (.inr (.inr (some dl))), some (.inl n), some (.inl 0)] _ _ _ _ _
  exact r_goC (d := d) hL hH hk hn hd dn.toNat 0 _ _ _ (by omega) (by decide) hT h
