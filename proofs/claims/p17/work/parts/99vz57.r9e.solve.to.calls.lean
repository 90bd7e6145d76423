section
/-! ===== the cheapest letting: the class, searchPlan and solve (laid by a program) ===== -/
/-- what a search leaves: all but its own rows, its plan, its marks -/
def sp_Z (w : Nat → Nat) (M0 M : mj_M) : Prop := M.2 = M0.2 ∧ (∀ a, (∀ i, 125 ≤ i → i ≤ 145 → a ≠ w i) → M.1 a = M0.1 a) ∧ (∀ k, 1 ≤ k → k ≤ 4 → M.1 (w 125) k = M0.1 (w 125) k) ∧ M.1 (w 126) = M0.1 (w 126)
section SZ
variable {G : mj_G} {w : Nat → Nat} {M0 M1 M : mj_M} {H : Nat → Int} {t5 t6 tl bp v : Int} {BR LA RB TC TT PA BE : Nat → Int} {GN RS TG : Nat → Nat → Int} {k : Nat}
theorem sp_Z.re : sp_Z w M M := ⟨rfl, fun _ _ => rfl, fun _ _ _ => rfl, rfl⟩
theorem sp_Z.tr (h : sp_Z w M0 M1) (g : sp_Z w M1 M) : sp_Z w M0 M := ⟨g.1.trans h.1, fun a n => (g.2.1 a n).trans (h.2.1 a n), fun k h1 h2 => (g.2.2.1 k h1 h2).trans (h.2.2.1 k h1 h2), g.2.2.2.trans h.2.2.2⟩
theorem sp_Z.pr (ga : cp_GA G w) (h : cq_C w M0 t5 t6 BR LA GN RS RB M) : sp_Z w M0 M := ⟨h.1, fun a n => h.2.1 a (fun i hi => n i (by omega) (by omega)), fun k h1 h2 => h.2.2.1 k (by omega) (by omega), h.2.1 _ (fun i hi => ga.ne (by omega) (by omega) (by omega))⟩
theorem sp_Z.li (ga : cp_GA G w) (h : ct_C w M0 tl TG TC TT M) : sp_Z w M0 M := ⟨h.1, fun a n => h.2.1 a (fun i hi => n i (by omega) (by omega)), fun k h1 h2 => h.2.2.1 k (by omega), h.2.1 _ (fun i hi => ga.ne (by omega) (by omega) (by omega))⟩
theorem sp_Z.se (ga : cp_GA G w) (h : cc_C w M0 LA PA BE bp M) : sp_Z w M0 M := ⟨h.1, fun a n => h.2.1 a ⟨n _ (by decide) (by decide), n _ (by decide) (by decide), n _ (by decide) (by decide), n _ (by decide) (by decide)⟩, fun k h1 h2 => h.2.2.1 k (by omega), h.2.1 _ (ga.nn (by decide) (by decide))⟩
theorem sp_Z.b18 (ga : cp_GA G w) : sp_Z w M (mj_p0 M (w 125) 18 v) := ⟨rfl, fun a n => wz_c (n _ (by decide) (by decide)), fun k h1 h2 => hn_n (Or.inr (by omega)), wz_c (ga.ne (by decide) (by decide) (by decide))⟩
end SZ
theorem r_sp2 {G : mj_G} {M0 M4 : mj_M} {w : Nat → Nat} {p s : Nat} {Q : mj_P} {d : Nat} {BE : Nat → Int} {bp : Int} (ga : cp_GA G w) (gb : cp_BA M4 w) (gpl : G (w p) = (1004, 0)) (h5 : M4.1 (w 125) 5 = M0.1 s 0) (h17 : ∀ k, k < 12 → M4.1 (w 145) k = BE k) (h9 : M4.1 (w p) 9 = M0.1 (w p) 9) (h18 : M4.1 (w 125) 18 = bp) : ∀ (n : Nat) (i : Int) (M5 : mj_M) (cb sb : Nat), i + n = 12 → 0 ≤ i → M5.2 = M4.2 → (∀ a, a ≠ w 126 → M5.1 a = M4.1 a) → (∀ j : Nat, (j : Int) < i → M5.1 (w 126) j = cs_pc (M0.1 s) (BE j)) → (∀ M5, M5.2 = M4.2 → (∀ a, a ≠ w 126 → M5.1 a = M4.1 a) → (∀ j, j < 12 → M5.1 (w 126) j = cs_pc (M0.1 s) (BE j)) → Q (some (.inl bp)) G (mj_p0 (mj_p0 M5 (w 125) 1 1) (w 125) 2 (M0.1 (w p) 9))) → wz d mt_X0_searchPlan.2.2.2.2.1 Q (mt_X0_searchPlan.2.2.2.2.1.drop 22) [some (.inr (.inr (some (w 125)))), some (.inr (.inr (some (w p)))), some (.inl i)] [] G M5 cb sb := by
  have n125 : w 125 ≠ w 126 := ga.ne (by decide) (by decide) (by decide)
  have n145 : w 145 ≠ w 126 := ga.ne (by decide) (by decide) (by decide)
  have npl : w p ≠ w 126 := hn_ne gpl ga.g126 (by decide)
  have npl2 : w p ≠ w 125 := hn_ne gpl ga.g125 (by decide)
  intro n
  induction n with
  | zero =>
    intro i M5 cb sb e i0 e2 eo ej h
    obtain rfl : i = 12 := by omega
    refine w_iln rfl ?_
    refine w_bp ?_
    refine w_cmge (fun c1 => ?_) (fun c1 => ?_)
    · skip
      refine w_aln rfl ?_
      refine w_ic ?_
      refine w_pi ga.g125 rfl (by decide) rfl (fun _ => by omega) ?_
      refine w_aln rfl ?_
      refine w_aln rfl ?_
      refine w_gi gpl rfl (by decide) rfl ((hn_n (Or.inl npl2)).trans ((congrFun (eo _ npl) 9).trans h9)) ?_
      refine w_pi ga.g125 rfl (by decide) rfl (fun q => by cases q) ?_
      refine w_aln rfl ?_
      refine w_gi ga.g125 rfl (by decide) rfl ((hn_n (Or.inr (by decide))).trans ((hn_n (Or.inr (by decide))).trans ((congrFun (eo _ n125) 18).trans h18))) ?_
      exact w_iret (fun q => by cases q) (h M5 e2 eo (fun j hj => ej j (by omega)))
    · exfalso; omega
  | succ n ih =>
    intro i M5 cb sb e i0 e2 eo ej h
    refine w_iln rfl ?_
    refine w_bp ?_
    refine w_cmge (fun c1 => ?_) (fun c1 => ?_)
    · exfalso; omega
    · skip
      refine w_aln rfl ?_
      refine w_gr ga.g125 rfl (by decide) rfl ((congrArg (fun z => z.2 (w 125) 0) e2).trans gb.r125_0) ?_
      refine w_iln rfl ?_
      refine w_aln rfl ?_
      refine w_gr ga.g125 rfl (by decide) rfl ((congrArg (fun z => z.2 (w 125) 17) e2).trans gb.r125_17) ?_
      refine w_iln rfl ?_
      refine w_iald (v := (BE i.toNat)) ga.g145 rfl (by show (0 : Int) ≤ i; omega) (by show i < ((12 : Nat) : Int); omega) (((congrFun (eo _ n145) _).trans (h17 _ (by omega)))) ?_
      refine w_aln rfl ?_
      refine w_gi ga.g125 rfl (by decide) rfl ((congrFun (eo _ n125) 5).trans h5) ?_
      refine w_cmne (fun c2 => ?_) (fun c2 => ?_)
      · skip
        refine w_aln rfl ?_
        refine w_gr ga.g125 rfl (by decide) rfl ((congrArg (fun z => z.2 (w 125) 17) e2).trans gb.r125_17) ?_
        refine w_iln rfl ?_
        refine w_iald (v := (BE i.toNat)) ga.g145 rfl (by show (0 : Int) ≤ i; omega) (by show i < ((12 : Nat) : Int); omega) (((congrFun (eo _ n145) _).trans (h17 _ (by omega)))) ?_
        refine w_iast ga.g126 rfl (by decide) (by show (0 : Int) ≤ i; omega) (by show i < ((12 : Nat) : Int); omega) ?_
        refine w_ii rfl ⟨by show (-2147483648 : Int) ≤ i + 1; omega, by show i + 1 < (2147483648 : Int); omega⟩ ?_
        show wz _ _ _ _ [some (.inr (.inr (some (w 125)))), some (.inr (.inr (some (w p)))), some (.inl (i + 1))] _ _ _ _ _
        refine w_goto ?_
        refine ih (i + 1) _ _ _ (by omega) (by omega) e2 (fun a na => (wz_c na).trans (eo a na)) (fun j hj => ?_) h
        by_cases ej2 : (j : Int) = i
        · rw [show j = i.toNat by omega]
          refine hn_s.trans ?_
          unfold cs_pc; exact (if_neg (by omega)).symm
        · exact (hn_n (Or.inr (by omega))).trans (ej j (by omega))
      · skip
        refine w_bp ?_
        refine w_goto ?_
        refine w_iast ga.g126 rfl (by decide) (by show (0 : Int) ≤ i; omega) (by show i < ((12 : Nat) : Int); omega) ?_
        refine w_ii rfl ⟨by show (-2147483648 : Int) ≤ i + 1; omega, by show i + 1 < (2147483648 : Int); omega⟩ ?_
        show wz _ _ _ _ [some (.inr (.inr (some (w 125)))), some (.inr (.inr (some (w p)))), some (.inl (i + 1))] _ _ _ _ _
        refine w_goto ?_
        refine ih (i + 1) _ _ _ (by omega) (by omega) e2 (fun a na => (wz_c na).trans (eo a na)) (fun j hj => ?_) h
        by_cases ej2 : (j : Int) = i
        · rw [show j = i.toNat by omega]
          refine hn_s.trans ?_
          unfold cs_pc; exact (if_pos (by omega)).symm
        · exact (hn_n (Or.inr (by omega))).trans (ej j (by omega))
theorem r_X0_searchPlan {G : mj_G} {M0 : mj_M} {x s p q : Nat} {w : Nat → Nat} {Q : mj_P} {d : Nat} (ga : cp_GA G w) (gb : cp_BA M0 w) (hA : lq_A G w) (hB : lq_B M0 w x) (hN : lq_N M0 w p q) (hG5 : rv_G6 (M0.1 s) 0 w p M0) (hr : rv_r4 (M0.1 s) 0) (t1 : 1 ≤ M0.1 s 0) (t3 : M0.1 s 0 ≤ 3) (hn : cs_A (M0.1 s) = none → ∀ M2, M2.2 = M0.2 → (∀ a, (∀ i, 125 ≤ i → i ≤ 145 → a ≠ w i) → M2.1 a = M0.1 a) → M2.1 (w 125) 3 = M0.1 (w 125) 3 → M2.1 (w 125) 4 = M0.1 (w 125) 4 → M2.1 (w 125) 1 = M0.1 (w 125) 1 → M2.1 (w 125) 2 = M0.1 (w 125) 2 → M2.1 (w 126) = M0.1 (w 126) → Q (some (.inl (-1))) G M2) (hs : ∀ c P, cs_A (M0.1 s) = some (c, P) → 0 ≤ c → ∀ M2, M2.2 = M0.2 → (∀ a, (∀ i, 125 ≤ i → i ≤ 145 → a ≠ w i) → M2.1 a = M0.1 a) → M2.1 (w 125) 3 = M0.1 (w 125) 3 → M2.1 (w 125) 4 = M0.1 (w 125) 4 → M2.1 (w 125) 1 = 1 → M2.1 (w 125) 2 = M0.1 (w p) 9 → (∀ j, j < 12 → M2.1 (w 126) j = P j) → Q (some (.inl c)) G M2) : mj_R mj_tab (d + 13) 12 [.inr (.inr (some (w 125))), .inr (.inr (some (w p)))] G M0 Q := by
  obtain ⟨gpl, gna, gta, gba, gwa, gtr, gbr, itr, ibr, p0, p1, p2, p3, rt, rb⟩ := lq_K hA hB hN.pin.1
  have hG := hG5.1
  have et := cs_te hr
  have b1 := cs_r1 hr
  have npl : ∀ i, 125 ≤ i → i ≤ 145 → w p ≠ w i := fun i h1 h2 => by
    have hp : p < 361 := by rcases hN.2.2 with z | z <;> omega
    exact ga.ne hp (by omega) (by rcases hN.2.2 with z | z <;> omega)
  refine ⟨Nat.le_of_ble_eq_true rfl, ?_⟩
  show wz (d + 12) mt_X0_searchPlan.2.2.2.2.1 Q mt_X0_searchPlan.2.2.2.2.1 [some (.inr (.inr (some (w 125)))), some (.inr (.inr (some (w p)))), none] [] G M0 _ _
  refine w_aln rfl ?_
  refine w_aln rfl ?_
  refine w_cv (st := []) rfl ga.g125 rfl (Nat.le_of_ble_eq_true rfl) (fun kk h => h) (r_X0_prepare (d := d + 10) ga gb hA hB hN hG5 hr t1 t3 (fun BR LA RB GN RS M1 hC1 hI => ?_))
  obtain ⟨hI1, hI2, hI3, hI4⟩ := hI
  have z1 := sp_Z.pr ga hC1
  have hK1 : cq_K (M0.1 s) M1 w := ⟨hC1.2.2.2.1, hC1.2.2.2.2.1, fun k hk => (hC1.2.2.2.2.2.1 k (by omega)).trans (hI1 k (by omega)).1, fun k j hk hj => (hC1.2.2.2.2.2.2.2.1 k j (by omega) hj).trans (hI2 k j (by omega) (by omega) hj)⟩
  have gb1 : cp_BA M1 w := fun e he => hC1.r (gb e he)
  refine w_aln rfl ?_
  refine w_cv (st := []) rfl ga.g125 rfl (Nat.le_of_ble_eq_true rfl) (fun kk h => h) (r_X0_listTails (d := d + 9) ga gb1 hK1 hr t1 t3 (fun TG TC TT M2 hC2 hT => ?_))
  have gb2 : cp_BA M2 w := fun e he => hC2.r (gb1 e he)
  have z2 := z1.tr (sp_Z.li ga hC2)
  refine w_aln rfl ?_
  refine w_ldc ?_
  refine w_pi ga.g125 rfl (by decide) rfl (fun q => by cases q) ?_
  obtain ⟨M3, hM3⟩ : ∃ M3, M3 = mj_p0 M2 (w 125) 18 1000000 := ⟨_, rfl⟩
  rw [← hM3]
  have z3 : sp_Z w M0 M3 := by rw [hM3]; exact z2.tr (sp_Z.b18 ga)
  have gb3 : cp_BA M3 w := fun e he => by rw [hM3]; exact gb2 e he
  have s3 : ∀ k, k ≠ 18 → M3.1 (w 125) k = M2.1 (w 125) k := fun k hk => by rw [hM3]; exact hn_n (Or.inr hk)
  have c3 : ∀ i k, i < 361 → i ≠ 125 → M3.1 (w i) k = M2.1 (w i) k := fun i k h1 h2 => by rw [hM3]; exact hn_n (Or.inl (ga.ne h1 (by decide) h2))
  have c2 : ∀ i k, i < 361 → i ≠ 125 → (i < 139 ∨ 143 < i) → M2.1 (w i) k = M1.1 (w i) k := fun i k h1 h2 h3 => congrFun (hC2.2.1 _ (ga.tn h1 ⟨h2, h3⟩)) k
  have hK3 : cc_K (M0.1 s) M3 w := by
    refine ⟨(s3 5 (by decide)).trans ((hC2.2.2.1 5 (by decide)).trans hK1.1), (s3 6 (by decide)).trans ((hC2.2.2.1 6 (by decide)).trans hK1.2.1), (s3 15 (by decide)).trans hC2.2.2.2.1, fun k hk => ?_, fun k j hk hj => ?_, fun k j hk hj => ?_, fun j hj => ?_, fun k i hk hi => ?_, fun i hi => ?_, fun i hi => ?_⟩
    · exact (c3 _ _ (by decide) (by decide)).trans ((c2 _ _ (by decide) (by decide) (by decide)).trans (hK1.2.2.1 k hk))
    · exact (c3 _ _ (by omega) (by omega)).trans ((c2 _ _ (by omega) (by omega) (by omega)).trans (hK1.2.2.2 k j hk hj))
    · exact (c3 _ _ (by omega) (by omega)).trans ((c2 _ _ (by omega) (by omega) (by omega)).trans ((hC1.2.2.2.2.2.2.2.2.1 k j (by omega) (by omega)).trans (hI3 k j (by omega) (by omega) hj)))
    · exact (c3 _ _ (by decide) (by decide)).trans ((c2 _ _ (by decide) (by decide) (by decide)).trans ((hC1.2.2.2.2.2.2.2.2.2 j (by omega)).trans (hI4 j (by omega) hj)))
    · have pw := (cw_pow (H := M0.1 s) (by omega) (by omega)).2.2.2
      exact (c3 _ _ (by omega) (by omega)).trans ((hC2.2.2.2.2.1 k i (by omega) (by omega)).trans ((hT i hi).1 k (by omega)))
    · have pw := (cw_pow (H := M0.1 s) (by omega) (by omega)).2.2.2
      exact (c3 _ _ (by decide) (by decide)).trans ((hC2.2.2.2.2.2.1 i (by omega)).trans (hT i hi).2.1)
    · have pw := (cw_pow (H := M0.1 s) (by omega) (by omega)).2.2.2
      exact (c3 _ _ (by decide) (by decide)).trans ((hC2.2.2.2.2.2.2 i (by omega)).trans (hT i hi).2.2)
  have hC3 := cc_C.re (w := w) (M := M3)
  have hLA : ∀ k, k < cs_t (M0.1 s) → M3.1 (w 128) k = cs_L0 (M0.1 s) k := fun k hk => (c3 _ _ (by decide) (by decide)).trans ((c2 _ _ (by decide) (by decide) (by decide)).trans ((hC1.2.2.2.2.2.2.1 k (by omega)).trans (hI1 k (by omega)).2))
  have hbp : M3.1 (w 125) 18 = 1000000 := by rw [hM3]; exact hn_s
  rw [hbp] at hC3
  refine w_aln rfl ?_
  refine w_ic ?_
  refine w_aln rfl ?_
  refine w_gi ga.g125 rfl (by decide) rfl hK3.1 ?_
  refine w_ic ?_
  refine w_cv (st := []) rfl ga.g125 rfl (Nat.le_of_ble_eq_true rfl) (fun kk h => h) (r_X0_tryMonth (d := d) ga gb3 hK3 hr t1 t3 (P0 := cs_pl (M0.1 s) (M3.1 (w 145))) 8 0 (M0.1 s 0) 0 (fun _ => 0) (M3.1 (w 128)) (M3.1 (w 144)) (M3.1 (w 145)) none 1000000 M3 _ (by decide) (by decide) (by omega) (Int.le_refl _) (by decide) (by decide) (fun j hj => absurd hj (by omega)) (fun k hk => ?_) hC3 ⟨rfl, fun _ _ => rfl⟩ (fun b2 bp2 PA2 BE2 M4 hC4 hp4 hN4 e4 => ?_))
  · rw [hLA k (by omega)]
    have q := cs_rt hr (j := 8 + 9 * k) (by omega) (by omega)
    show _ ≤ M0.1 s (8 + 9 * k) ∧ M0.1 s (8 + 9 * k) ≤ _
    omega
  have eA : b2 = cs_A (M0.1 s) := by
    rw [e4]
    have e5 : cs_S (M0.1 s) (8 + 4) (0 : Int).toNat (M0.1 s 0).toNat (M3.1 (w 128)) = cs_A (M0.1 s) := cs_S_cg _ _ _ _ _ hLA
    rw [e5]
    cases cs_A (M0.1 s) with
    | none => rfl
    | some x =>
      show some (0 + x.1, _) = some x
      rw [Int.zero_add]; rfl
  rw [eA] at hN4
  have z4 := z3.tr (sp_Z.se ga hC4)
  have gb4 : cp_BA M4 w := fun e he => hC4.r (gb3 e he)
  have bb4 := hN4.b (by decide)
  refine w_aln rfl ?_
  refine w_gi ga.g125 rfl (by decide) rfl hC4.2.2.2.1 ?_
  refine w_ldc ?_
  refine w_cmne (fun c1 => ?_) (fun c1 => ?_)
  · refine w_ic ?_
    refine w_isn ?_
    cases hA9 : cs_A (M0.1 s) with
    | none =>
      rw [hA9] at hN4
      exact absurd hN4.1 c1
    | some y =>
      rw [hA9] at hN4
      obtain ⟨q1, q2, q3, q4⟩ := hN4
      refine r_sp2 (d := d + 12) (M0 := M0) (s := s) (bp := bp2) ga gb4 gpl ((hC4.2.2.1 5 (by decide)).trans hK3.1) (fun k hk => hC4.2.2.2.2.2.2 k hk) (congrFun (z4.2.1 _ (fun i h1 h2 => npl i h1 h2)) 9) hC4.2.2.2.1 12 0 M4 _ _ (by decide) (by decide) rfl (fun _ _ => rfl) (fun j hj => absurd hj (by omega)) (fun M5 e2 eo ej => ?_)
      have n1 : w 125 ≠ w 126 := ga.ne (by decide) (by decide) (by decide)
      rw [← q1]
      refine hs y.1 y.2 hA9 (by omega) _ (e2.trans z4.1) (fun a na => ?_) ?_ ?_ ?_ hn_s (fun j hj => ?_)
      · exact (wz_c (na _ (by decide) (by decide))).trans ((wz_c (na _ (by decide) (by decide))).trans ((eo a (na _ (by decide) (by decide))).trans (z4.2.1 a na)))
      · exact (hn_n (Or.inr (by decide))).trans ((hn_n (Or.inr (by decide))).trans ((congrFun (eo _ n1) 3).trans (z4.2.2.1 3 (by decide) (by decide))))
      · exact (hn_n (Or.inr (by decide))).trans ((hn_n (Or.inr (by decide))).trans ((congrFun (eo _ n1) 4).trans (z4.2.2.1 4 (by decide) (by decide))))
      · exact (hn_n (Or.inr (by decide))).trans hn_s
      · exact (hn_n (Or.inl n1.symm)).trans ((hn_n (Or.inl n1.symm)).trans ((ej j hj).trans (q4 j hj)))
  · refine w_ic ?_
    cases hA9 : cs_A (M0.1 s) with
    | none =>
      exact w_iret (fun q => by cases q) (hn hA9 M4 z4.1 z4.2.1 (z4.2.2.1 3 (by decide) (by decide)) (z4.2.2.1 4 (by decide) (by decide)) (z4.2.2.1 1 (by decide) (by decide)) (z4.2.2.1 2 (by decide) (by decide)) z4.2.2.2)
    | some y =>
      rw [hA9] at hN4
      obtain ⟨q1, q2, q3, q4⟩ := hN4
      omega
theorem r_X0_solve {G : mj_G} {M0 : mj_M} {x s p q : Nat} {w : Nat → Nat} {Q : mj_P} {d : Nat} (ga : cp_GA G w) (gb : cp_BA M0 w) (hA : lq_A G w) (hB : lq_B M0 w x) (hN : lq_N M0 w p q) (hG5 : rv_G6 (M0.1 s) 0 w p M0) (hr : rv_r4 (M0.1 s) 0) (t1 : 1 ≤ M0.1 s 0) (t3 : M0.1 s 0 ≤ 3) (gs : G s = (51100, 537)) (h0 : M0.1 (w p) 9 = M0.1 (w 125) 3 → Q (some (.inl (M0.1 (w 125) 4))) G M0) (hn : M0.1 (w p) 9 ≠ M0.1 (w 125) 3 → cs_A (M0.1 s) = none → ∀ M2, M2.2 = M0.2 → (∀ a, (∀ i, 125 ≤ i → i ≤ 145 → a ≠ w i) → M2.1 a = M0.1 a) → M2.1 (w 125) 3 = M0.1 (w p) 9 → M2.1 (w 125) 4 = -1 → M2.1 (w 125) 1 = M0.1 (w 125) 1 → M2.1 (w 125) 2 = M0.1 (w 125) 2 → M2.1 (w 126) = M0.1 (w 126) → Q (some (.inl (-1))) G M2) (hs : M0.1 (w p) 9 ≠ M0.1 (w 125) 3 → ∀ c P, cs_A (M0.1 s) = some (c, P) → 0 ≤ c → ∀ M2, M2.2 = M0.2 → (∀ a, (∀ i, 125 ≤ i → i ≤ 145 → a ≠ w i) → M2.1 a = M0.1 a) → M2.1 (w 125) 3 = M0.1 (w p) 9 → M2.1 (w 125) 4 = c → M2.1 (w 125) 1 = 1 → M2.1 (w 125) 2 = M0.1 (w p) 9 → (∀ j, j < 12 → M2.1 (w 126) j = P j) → Q (some (.inl c)) G M2) : mj_R mj_tab (d + 14) 13 [.inr (.inr (some (w 125))), .inr (.inr (some (w p)))] G M0 Q := by
  obtain ⟨gpl, gna, gta, gba, gwa, gtr, gbr, itr, ibr, p0, p1, p2, p3, rt, rb⟩ := lq_K hA hB hN.pin.1
  have hG := hG5.1
  have et := cs_te hr
  have b1 := cs_r1 hr
  have n125 : ∀ a tg n, G a = (tg, n) → tg ≠ 1001 → a ≠ w 125 := fun a tg n g e => hn_ne g ga.g125 e
  have npl := n125 _ _ _ gpl (by decide)
  have nsl := n125 _ _ _ gs (by decide)
  refine ⟨Nat.le_of_ble_eq_true rfl, ?_⟩
  show wz (d + 13) mt_X0_solve.2.2.2.2.1 Q mt_X0_solve.2.2.2.2.1 [some (.inr (.inr (some (w 125)))), some (.inr (.inr (some (w p))))] [] G M0 _ _
  refine w_aln rfl ?_
  refine w_gi gpl rfl (by decide) rfl rfl ?_
  refine w_aln rfl ?_
  refine w_gi ga.g125 rfl (by decide) rfl rfl ?_
  refine w_cmeq (fun c1 => ?_) (fun c1 => ?_)
  · refine w_aln rfl ?_
    refine w_gi ga.g125 rfl (by decide) rfl rfl ?_
    exact w_iret (fun q => by cases q) (h0 c1)
  · refine w_aln rfl ?_
    refine w_aln rfl ?_
    refine w_gi gpl rfl (by decide) rfl rfl ?_
    refine w_pi ga.g125 rfl (by decide) rfl (fun q => by cases q) ?_
    obtain ⟨M1, hM1⟩ : ∃ M1, M1 = mj_p0 M0 (w 125) 3 (M0.1 (w p) 9) := ⟨_, rfl⟩
    rw [← hM1]
    have e2 : M1.2 = M0.2 := by rw [hM1]; rfl
    have eo : ∀ a, a ≠ w 125 → M1.1 a = M0.1 a := fun a na => by rw [hM1]; exact wz_c na
    have es : M1.1 s = M0.1 s := eo s nsl
    have e3 : M1.1 (w 125) 3 = M0.1 (w p) 9 := by rw [hM1]; exact hn_s
    have ek : ∀ k, k ≠ 3 → M1.1 (w 125) k = M0.1 (w 125) k := fun k hk => by rw [hM1]; exact hn_n (Or.inr hk)
    have ep : M1.1 (w p) = M0.1 (w p) := eo _ npl
    have gb1 : cp_BA M1 w := fun e he => by rw [hM1]; exact gb e he
    have hB1 : lq_B M1 w x := by unfold lq_B; rw [e2]; exact hB
    have hN1 : lq_N M1 w p q := by unfold lq_N; rw [e2]; exact hN
    have hG1 : rv_G6 (M1.1 s) 0 w p M1 := by
      rw [es]
      obtain ⟨⟨g1, g2, g3, g4, g5, g6⟩, g7, g8⟩ := hG5
      have ew : ∀ i, i < 361 → G (w i) ≠ (1001, 0) → M1.1 (w i) = M0.1 (w i) := fun i hi hg => eo _ (fun z => hg (by rw [z]; exact ga.g125))
      refine ⟨⟨by rw [ep]; exact g1, by rw [ep]; exact g2, by rw [ep]; exact g3, by rw [ep]; exact g4, fun t v ht hv => ?_, fun v hv => ?_⟩, fun t v ht hv => ?_, by rw [ep]; exact g8⟩
      · rw [eo _ (n125 _ _ _ (gtr t ht) (by decide))]; exact g5 t v ht hv
      · rw [eo _ (n125 _ _ _ gwa (by decide))]; exact g6 v hv
      · rw [eo _ (n125 _ _ _ (gbr t ht) (by decide))]; exact g7 t v ht hv
    refine w_aln rfl ?_
    refine w_aln rfl ?_
    refine w_aln rfl ?_
    refine w_cv (st := [.inr (.inr (some (w 125)))]) rfl ga.g125 rfl (Nat.le_of_ble_eq_true rfl) (fun kk h => h) (r_X0_searchPlan (d := d) ga gb1 hA hB1 hN1 hG1 (by rw [es]; exact hr) (by rw [es]; exact t1) (by rw [es]; exact t3) (fun hA9 M2 f1 f2 f3 f4 f5 f6 f7 => ?_) (fun c P hA9 c0 M2 f1 f2 f3 f4 f5 f6 f7 => ?_))
    · rw [es] at hA9
      refine w_pi ga.g125 rfl (by decide) rfl (fun q => by cases q) ?_
      refine w_aln rfl ?_
      refine w_gi ga.g125 rfl (by decide) rfl hn_s ?_
      refine w_iret (fun q => by cases q) (hn c1 hA9 _ (f1.trans e2) (fun a na => ?_) ((hn_n (Or.inr (by decide))).trans (f3.trans e3)) hn_s ((hn_n (Or.inr (by decide))).trans (f5.trans (ek 1 (by decide)))) ((hn_n (Or.inr (by decide))).trans (f6.trans (ek 2 (by decide)))) ?_)
      · exact (wz_c (na _ (by decide) (by decide))).trans ((f2 a na).trans (eo a (na _ (by decide) (by decide))))
      · exact (wz_c (ga.ne (by decide) (by decide) (by decide))).trans (f7.trans (eo _ (ga.ne (by decide) (by decide) (by decide))))
    · rw [es] at hA9
      refine w_pi ga.g125 rfl (by decide) rfl (fun q => by cases q) ?_
      refine w_aln rfl ?_
      refine w_gi ga.g125 rfl (by decide) rfl hn_s ?_
      refine w_iret (fun q => by cases q) (hs c1 c P hA9 c0 _ (f1.trans e2) (fun a na => ?_) ((hn_n (Or.inr (by decide))).trans (f3.trans e3)) hn_s ((hn_n (Or.inr (by decide))).trans f5) ((hn_n (Or.inr (by decide))).trans (f6.trans (congrFun ep 9))) (fun j hj => ?_))
      · exact (wz_c (na _ (by decide) (by decide))).trans ((f2 a na).trans (eo a (na _ (by decide) (by decide))))
      · exact (hn_n (Or.inl (ga.ne (by decide) (by decide) (by decide)))).trans (f7 j hj)
end
section
/-! ===== the PLAIN's number on both sides, and what the latest cheapest() found ===== -/
theorem cs_S_H {H H' : Nat → Int} (h : ∀ j, j < 88 → H j = H' j) (h0 : 0 ≤ H 0 ∧ H 0 ≤ 8) : ∀ (r m a : Nat) (L : Nat → Int), m + r ≤ 12 → cs_S H r m a L = cs_S H' r m a L
  | 0, m, a, L, _ => by
    have et : cs_t H = cs_t H' := by unfold cs_t; rw [h 0 (by decide)]
    have e : cs_met H L ↔ cs_met H' L := by unfold cs_met; rw [et]
    unfold cs_S
    by_cases c : cs_met H L
    · rw [if_pos c, if_pos (e.mp c)]
    · rw [if_neg c, if_neg (fun z => c (e.mpr z))]
  | r + 1, m, a, L, hm => by
    have et : cs_t H = cs_t H' := by unfold cs_t; rw [h 0 (by decide)]
    have t8 : cs_t H ≤ 8 := by unfold cs_t; omega
    show cs_fold _ (cs_t H + 1) = cs_fold _ (cs_t H' + 1)
    rw [← et]
    refine cs_fold_cg _ (fun c hc => ?_)
    have e1 : cs_cost H a c = cs_cost H' a c := by
      unfold cs_cost
      rw [← et, h 1 (by decide)]
      by_cases q : c < cs_t H ∧ a ≠ c
      · rw [if_pos q, if_pos q, h (10 + 9 * c) (by omega)]
      · rw [if_neg q, if_neg q]
    have e2 : cs_code H c = cs_code H' c := by unfold cs_code; rw [et]
    have e3 : cs_lk H L c m = cs_lk H' L c m := by
      unfold cs_lk cs_gain
      rw [h (4 + 9 * c) (by omega), h (76 + m) (by omega)]
    show cs_add (cs_cost H a c) m (cs_code H c) (cs_S H r (m + 1) c (cs_lk H L c m)) = cs_add (cs_cost H' a c) m (cs_code H' c) (cs_S H' r (m + 1) c (cs_lk H' L c m))
    rw [e1, e2, e3, cs_S_H h h0 r (m + 1) c _ (by omega)]
theorem cs_A_H {H H' : Nat → Int} (h : ∀ j, j < 88 → H j = H' j) (h0 : 0 ≤ H 0 ∧ H 0 ≤ 8) : cs_A H = cs_A H' := by
  have et : cs_t H = cs_t H' := by unfold cs_t; rw [h 0 (by decide)]
  have t8 : cs_t H ≤ 8 := by unfold cs_t; omega
  unfold cs_A
  rw [cs_S_H h h0 12 0 _ _ (by decide), et]
  exact cs_S_cg _ _ _ _ _ (fun k hk => h (8 + 9 * k) (by omega))
def lq_Vg (G : mj_G) (M : mj_M) (x m : Nat) (w : Nat → Nat) : Prop := cp_GA G w ∧ cp_BA M w ∧ M.2.2 x 6 = some (w 125) ∧ cp_GR G w ∧ cp_BR M w m
def lq_Vn (A : Int → cs_R) (M : mj_M) (m s : Nat) (w : Nat → Nat) : Prop := (0 ≤ M.1 m 25 ∧ M.1 m 25 ≤ M.1 m 26) ∧ (∀ p q, lq_N M w p q → M.1 (w p) 9 = M.1 m 25) ∧ A (M.1 m 25) = cs_A (M.1 s)
def lq_V1 (A : Int → cs_R) (M : mj_M) (m kp : Nat) (w : Nat → Nat) (k : Nat) : Prop := M.1 (w (lq_ip k)) 9 = M.1 kp (538 * k + 537) ∧ (0 ≤ M.1 kp (538 * k + 537) ∧ M.1 kp (538 * k + 537) ≤ M.1 m 26) ∧ A (M.1 kp (538 * k + 537)) = cs_A (fun j => M.1 kp (538 * k + j))
def lq_Vk (A : Int → cs_R) (M : mj_M) (m kp kc : Nat) (w : Nat → Nat) : Prop := ∀ k, k < 2 → M.1 kc k ≠ 0 → lq_V1 A M m kp w k
def lq_Vs (A : Int → cs_R) (M : mj_M) (m : Nat) (w : Nat → Nat) : Prop := M.1 (w 125) 3 = -1 ∨ ((0 ≤ M.1 (w 125) 3 ∧ M.1 (w 125) 3 ≤ M.1 m 26) ∧ ((A (M.1 (w 125) 3) = none ∧ M.1 (w 125) 4 = -1) ∨ ∃ c P, A (M.1 (w 125) 3) = some (c, P) ∧ 0 ≤ c ∧ M.1 (w 125) 4 = c ∧ M.1 (w 125) 1 = 1 ∧ M.1 (w 125) 2 = M.1 (w 125) 3 ∧ ∀ j, j < 12 → M.1 (w 126) j = P j))
def lq_Vp (A : Int → cs_R) (M : mj_M) (m : Nat) (w : Nat → Nat) : Prop := M.1 (w 125) 1 = M.1 m 39 ∧ (M.1 (w 125) 1 ≠ 0 → M.1 (w 125) 2 = M.1 m 40 ∧ (∀ j, j < 12 → M.1 (w 126) j = M.1 (w 348) j) ∧ (0 ≤ M.1 m 40 ∧ M.1 m 40 ≤ M.1 m 26) ∧ ∃ c P, A (M.1 m 40) = some (c, P) ∧ ∀ j, j < 12 → M.1 (w 348) j = P j)
/-- the numbers read so far: c at most -/
def lq_Vc (M : mj_M) (m : Nat) (c : Int) : Prop := 0 ≤ M.1 m 26 ∧ M.1 m 26 ≤ c
def lq_V (G : mj_G) (M : mj_M) (x m s kp kc : Nat) (w : Nat → Nat) (c : Int) : Prop := lq_Vg G M x m w ∧ lq_Vc M m c ∧ M.1 x 13 = M.1 m 26 ∧ ∃ A, lq_Vn A M m s w ∧ lq_Vk A M m kp kc w ∧ lq_Vs A M m w ∧ lq_Vp A M m w
abbrev lq_Vw (W : List (Nat × Nat × Nat)) : Prop := ∀ q ∈ W, ¬ (q.1 = 51100 ∧ q.2.1 < 88) ∧ q.1 ≠ 70100 ∧ q.1 ≠ 48102 ∧ (q.1 ≠ 1012 ∨ ((q.2.2 < 25 ∨ 26 < q.2.1) ∧ (q.2.2 < 35 ∨ 40 < q.2.1))) ∧ (q.1 ≠ 1011 ∨ ((q.2.2 < 6 ∨ 6 < q.2.1) ∧ (q.2.2 < 13 ∨ 13 < q.2.1))) ∧ ¬ (q.1 = 1007 ∧ q.2.1 = 0) ∧ (q.1 ≠ 1004 ∨ q.2.2 < 9 ∨ 9 < q.2.1) ∧ q.1 ≠ 1001 ∧ q.1 ≠ 2100 ∧ q.1 ≠ 5104 ∧ q.1 ≠ 7104 ∧ q.1 ≠ 10104 ∧ q.1 ≠ 61100
section VV
variable {G : mj_G} {M M' : mj_M} {x s m kp kc tp : Nat} {w : Nat → Nat} {c c' z1 : Int} {A : Int → cs_R}
theorem lq_Vs.cg {A' : Int → cs_R} (h : lq_Vs A M m w) (e1 : ∀ k, 1 ≤ k → k ≤ 4 → M'.1 (w 125) k = M.1 (w 125) k) (e2 : M'.1 (w 126) = M.1 (w 126)) (em : M.1 m 26 ≤ M'.1 m 26) (eA : ∀ v, 0 ≤ v → v ≤ M.1 m 26 → A' v = A v) : lq_Vs A' M' m w := by
  unfold lq_Vs
  rw [e1 1 (by decide) (by decide), e1 2 (by decide) (by decide), e1 3 (by decide) (by decide), e1 4 (by decide) (by decide), e2]
  rcases h with h | ⟨⟨h1, h2⟩, h3⟩
  · exact Or.inl h
  · rw [eA _ h1 h2]
    exact Or.inr ⟨⟨h1, by omega⟩, h3⟩
theorem lq_Vp.cg {A' : Int → cs_R} (h : lq_Vp A M m w) (e1 : ∀ k, 1 ≤ k → k ≤ 4 → M'.1 (w 125) k = M.1 (w 125) k) (e2 : M'.1 (w 126) = M.1 (w 126)) (e3 : M'.1 m 39 = M.1 m 39 ∧ M'.1 m 40 = M.1 m 40) (e4 : M'.1 (w 348) = M.1 (w 348)) (em : M.1 m 26 ≤ M'.1 m 26) (eA : ∀ v, 0 ≤ v → v ≤ M.1 m 26 → A' v = A v) : lq_Vp A' M' m w := by
  unfold lq_Vp
  rw [e1 1 (by decide) (by decide), e1 2 (by decide) (by decide), e2, e3.1, e3.2, e4]
  refine ⟨h.1, fun z => ?_⟩
  obtain ⟨h1, h2, ⟨h3, h4⟩, h5⟩ := h.2 z
  rw [eA _ h3 h4]
  exact ⟨h1, h2, ⟨h3, by omega⟩, h5⟩
theorem lq_V1.cg {A' : Int → cs_R} {k : Nat} (h : lq_V1 A M m kp w k) (e9 : M'.1 (w (lq_ip k)) 9 = M.1 (w (lq_ip k)) 9) (ek : ∀ j, j < 538 → M'.1 kp (538 * k + j) = M.1 kp (538 * k + j)) (h8 : 0 ≤ M.1 kp (538 * k) ∧ M.1 kp (538 * k) ≤ 8) (em : M.1 m 26 ≤ M'.1 m 26) (eA : ∀ v, 0 ≤ v → v ≤ M.1 m 26 → A' v = A v) : lq_V1 A' M' m kp w k := by
  obtain ⟨h1, ⟨h2, h3⟩, h4⟩ := h
  unfold lq_V1
  rw [e9, ek 537 (by decide), eA _ h2 h3, h4]
  exact ⟨h1, ⟨h2, by omega⟩, cs_A_H (fun j hj => (ek j (by omega)).symm) h8⟩
theorem lq_V.cg (h : lq_V G M x m s kp kc w c) (hc : c ≤ c') (h8 : 0 ≤ M.1 s 0 ∧ M.1 s 0 ≤ 8) (rg : lq_Vg G M' x m w) (n1 : M'.2.2 (w 29) 0 = M.2.2 (w 29) 0) (n2 : M'.2.2 (w 74) 0 = M.2.2 (w 74) 0) (ex : M'.1 x 13 = M.1 x 13) (em : ∀ k, k = 25 ∨ k = 26 ∨ k = 39 ∨ k = 40 → M'.1 m k = M.1 m k) (e1 : ∀ k, 1 ≤ k → k ≤ 4 → M'.1 (w 125) k = M.1 (w 125) k) (e2 : M'.1 (w 126) = M.1 (w 126)) (e4 : M'.1 (w 348) = M.1 (w 348)) (e9 : ∀ P, P ∈ lq_Ps → (∀ p q, lq_N M w p q → P ≠ q) → M'.1 (w P) 9 = M.1 (w P) 9) (es : ∀ j, j < 88 → M'.1 s j = M.1 s j) (ek : M'.1 kp = M.1 kp) (ec : M'.1 kc = M.1 kc) : lq_V G M' x m s kp kc w c' := by
  obtain ⟨hg, ⟨c1, c2⟩, hx, A, ⟨a1, a2, a3⟩, hk, hs, hp⟩ := h
  have m5 := em 25 (Or.inl rfl)
  have m6 := em 26 (Or.inr (Or.inl rfl))
  have m9 := em 39 (Or.inr (Or.inr (Or.inl rfl)))
  have m0 := em 40 (Or.inr (Or.inr (Or.inr rfl)))
  refine ⟨rg, ⟨by rw [m6]; exact c1, by rw [m6]; omega⟩, by rw [ex, m6]; exact hx, A, ⟨by rw [m5, m6]; exact a1, fun p q hn => ?_, ?_⟩, fun k hk2 h0 => ?_, hs.cg e1 e2 (by omega) (fun _ _ _ => rfl), hp.cg e1 e2 ⟨m9, m0⟩ e4 (by omega) (fun _ _ _ => rfl)⟩
  · have hn0 := lq_N.back n1 n2 hn
    rw [m5, e9 p hn0.pin.1 (fun p' q' hn' e => ?_)]
    · exact a2 p q hn0
    · have := hn'.qin.2
      have e3 := hg.1.1 _ _ (by have := lq_P4 hn0.pin.1; omega) (by have := lq_P4 hn'.pin.1; omega) (Option.some.inj (hn0.1.symm.trans hn'.1))
      omega
  · rw [m5, a3]
    exact cs_A_H (fun j hj => (es j hj).symm) h8
  · rw [ec] at h0
    have h1 := hk k hk2 h0
    obtain ⟨q1, ⟨q2, q3⟩, q4⟩ := h1
    unfold lq_V1
    rw [ek, m6, e9 _ (lq_ip_in k) (fun p q hn => hn.nip k)]
    exact ⟨q1, ⟨q2, q3⟩, q4⟩
theorem lq_Vg.go {W : List (Nat × Nat × Nat)} (h : lq_Vg G M x m w) (gx : G x = (1011, 0)) (gm : G m = (1012, 0)) (f : ab_frm W G M M') (cW : ∀ q ∈ W, (q.1 ≠ 1012 ∨ (q.2.2 < 35 ∨ 38 < q.2.1)) ∧ (q.1 ≠ 1011 ∨ (q.2.2 < 6 ∨ 6 < q.2.1)) ∧ (q.1 ≠ 1001 ∨ (q.2.2 = q.2.1 ∧ 1 ≤ q.2.1 ∧ q.2.1 ≤ 6) ∨ (q.2.1 = 15 ∧ q.2.2 = 15) ∨ (q.2.1 = 18 ∧ q.2.2 = 18)) ∧ q.1 ≠ 5104 ∧ q.1 ≠ 7104 ∧ q.1 ≠ 10104) : lq_Vg G M' x m w := by
  obtain ⟨ga, gb, x6, gr, b1, b2, b3, b4⟩ := h
  have fm : ∀ k, 35 ≤ k → k ≤ 38 → M'.2.2 m k = M.2.2 m k := fun k h1 h2 => (f m k (by rw [gm]; rintro ⟨r, hr, e1, e2, e3⟩; have := (cW r hr).1; omega)).2
  refine ⟨ga, fun e he => ?_, (f x 6 (by rw [gx]; rintro ⟨r, hr, e1, e2, e3⟩; have := (cW r hr).2.1; omega)).2.trans x6, gr, (fm 35 (by decide) (by decide)).trans b1, (fm 36 (by decide) (by decide)).trans b2, (fm 37 (by decide) (by decide)).trans b3, (fm 38 (by decide) (by decide)).trans b4⟩
  refine (f (w e.1) e.2.1 ?_).2.trans (gb e he)
  have key : ∀ (t n k : Nat), G (w e.1) = (t, n) → e.2.1 = k → (∀ r ∈ W, r.1 = t → r.2.1 ≤ k → k ≤ r.2.2 → False) → ¬ ab_cov W (G (w e.1)).1 e.2.1 := fun t n k g ek hh => by
    rw [g, ek]; rintro ⟨r, hr, e1, e2, e3⟩; exact hh r hr e1 e2 e3
  have hl : ∀ e ∈ cp_lr, e.1 = 125 ∧ (e.2.1 = 0 ∨ (7 ≤ e.2.1 ∧ e.2.1 ≤ 14) ∨ e.2.1 = 16 ∨ e.2.1 = 17) ∨ e.1 = 129 ∨ e.1 = 133 ∨ e.1 = 138 := by decide
  rcases hl e he with ⟨h1, h2⟩ | h1 | h1 | h1
  · exact key 1001 0 e.2.1 (by rw [h1]; exact ga.g125) rfl (fun r hr z1 z2 z3 => by have := (cW r hr).2.2.1; omega)
  · exact key 5104 3 e.2.1 (by rw [h1]; exact ga.g129) rfl (fun r hr z1 z2 z3 => (cW r hr).2.2.2.1 z1)
  · exact key 7104 3 e.2.1 (by rw [h1]; exact ga.g133) rfl (fun r hr z1 z2 z3 => (cW r hr).2.2.2.2.1 z1)
  · exact key 10104 3 e.2.1 (by rw [h1]; exact ga.g138) rfl (fun r hr z1 z2 z3 => (cW r hr).2.2.2.2.2 z1)
theorem lq_V.go {W : List (Nat × Nat × Nat)} (h : lq_V G M x m s kp kc w c) (hc : c ≤ c') (h8 : 0 ≤ M.1 s 0 ∧ M.1 s 0 ≤ 8) (hA : lq_A G w) (gx : G x = (1011, 0)) (gm : G m = (1012, 0)) (gs : G s = (51100, 537)) (gk : G kp = (70100, 1076)) (gc : G kc = (48102, 2)) (f : ab_frm W G M M') (cW : lq_Vw W) : lq_V G M' x m s kp kc w c' := by
  have ga := h.1.1
  have gr := h.1.2.2.2.1
  refine h.cg hc h8 (h.1.go gx gm f (fun q hq => ?_)) (f _ 0 (by rw [hA.2.2.1]; rintro ⟨r, hr, e1, e2, e3⟩; exact (cW r hr).2.2.2.2.2.1 ⟨e1, by omega⟩)).2 (f _ 0 (by rw [hA.2.2.2.1]; rintro ⟨r, hr, e1, e2, e3⟩; exact (cW r hr).2.2.2.2.2.1 ⟨e1, by omega⟩)).2 (f x 13 (by rw [gx]; rintro ⟨r, hr, e1, e2, e3⟩; have := (cW r hr).2.2.2.2.1; omega)).1 (fun k hk => (f m k (by rw [gm]; rintro ⟨r, hr, e1, e2, e3⟩; have := (cW r hr).2.2.2.1; omega)).1) (fun k _ _ => (f _ k (by rw [ga.g125]; rintro ⟨r, hr, e1, e2, e3⟩; exact (cW r hr).2.2.2.2.2.2.2.1 e1)).1) (funext fun k => (f _ k (by rw [ga.g126]; rintro ⟨r, hr, e1, e2, e3⟩; exact (cW r hr).2.2.2.2.2.2.2.2.1 e1)).1) (funext fun k => (f _ k (by rw [gr.2.2.2]; rintro ⟨r, hr, e1, e2, e3⟩; exact (cW r hr).2.2.2.2.2.2.2.2.2.2.2.2 e1)).1) (fun P hP _ => (f _ 9 (by rw [(hA.2.1 P hP).1]; rintro ⟨r, hr, e1, e2, e3⟩; have := (cW r hr).2.2.2.2.2.2.1; omega)).1) (fun j hj => (f s j (by rw [gs]; rintro ⟨r, hr, e1, e2, e3⟩; exact (cW r hr).1 ⟨e1, by omega⟩)).1) (funext fun k => (f kp k (by rw [gk]; rintro ⟨r, hr, e1, e2, e3⟩; exact (cW r hr).2.1 e1)).1) (funext fun k => (f kc k (by rw [gc]; rintro ⟨r, hr, e1, e2, e3⟩; exact (cW r hr).2.2.1 e1)).1)
  have q9 := cW q hq
  refine ⟨?_, ?_, Or.inl q9.2.2.2.2.2.2.2.1, q9.2.2.2.2.2.2.2.2.2.1, q9.2.2.2.2.2.2.2.2.2.2.1, q9.2.2.2.2.2.2.2.2.2.2.2.1⟩
  · have := q9.2.2.2.1; omega
  · have := q9.2.2.2.2.1; omega
theorem lq_V.mv (h : lq_V G M x m s kp kc w c) (hc : c ≤ c') (e1 : M'.1 = M.1) (e2 : M'.2.2 = M.2.2) : lq_V G M' x m s kp kc w c' := by
  obtain ⟨hg, ⟨c1, c2⟩, hx, A, hn, hk, hs, hp⟩ := h
  have hv : lq_V G M x m s kp kc w c' := ⟨hg, ⟨c1, by omega⟩, hx, A, hn, hk, hs, hp⟩
  have eM : ∀ p q, lq_N M' w p q → lq_N M w p q := fun p q hn => by unfold lq_N at hn ⊢; rw [← e2]; exact hn
  obtain ⟨⟨g1, g2, g3, g4, g5⟩, hc9, hx, A, ⟨n1, n2, n3⟩, hk, hs, hp⟩ := hv
  refine ⟨⟨g1, ?_, by rw [e2]; exact g3, g4, ?_⟩, ?_, by rw [e1]; exact hx, A, ⟨by rw [e1]; exact n1, fun p q hn => by rw [e1]; exact n2 p q (eM p q hn), by rw [e1]; exact n3⟩, ?_, ?_, ?_⟩
  · unfold cp_BA; rw [e2]; exact g2
  · unfold cp_BR; rw [e2]; exact g5
  · unfold lq_Vc; rw [e1]; exact hc9
  · unfold lq_Vk lq_V1; rw [e1]; exact hk
  · unfold lq_Vs; rw [e1]; exact hs
  · unfold lq_Vp; rw [e1]; exact hp
end VV
end
section
/-! ===== the PLAIN's number through the calls that change it; cheapest as the invariant sees it (laid by a program) ===== -/
section VP
variable {G : mj_G} {M M' : mj_M} {x s m kp kc tp ud : Nat} {w : Nat → Nat} {c z1 : Int} {A : Int → cs_R}
theorem cs_inc {a : Int} (h0 : 0 ≤ a) (h9 : a ≤ 1000000) : (Int32.ofInt a + Int32.ofInt 1).toInt = a + 1 := by
  rw [← Int32.ofInt_add]; exact mj_ti ⟨by omega, by omega⟩
theorem lq_Vg.rf (h : lq_Vg G M x m w) (hA : lq_A G w) (gx : G x = (1011, 0)) (gm : G m = (1012, 0)) (gtp : G tp = (1008, 0)) (r : ∀ a j, ¬ (a = tp ∧ j = 9) → ¬ (a = w 29 ∧ j = 0) → ¬ (a = w 74 ∧ j = 0) → M'.2.2 a j = M.2.2 a j) : lq_Vg G M' x m w := by
  obtain ⟨ga, gb, x6, gr, b1, b2, b3, b4⟩ := h
  have g29 := hA.2.2.1
  have g74 := hA.2.2.2.1
  have rr : ∀ {a t n : Nat} (j : Nat), G a = (t, n) → t ≠ 1008 → t ≠ 1007 → M'.2.2 a j = M.2.2 a j := fun j g h1 h2 => r _ j (fun e => hn_ne g gtp h1 e.1) (fun e => hn_ne g g29 h2 e.1) (fun e => hn_ne g g74 h2 e.1)
  refine ⟨ga, fun e he => ?_, (rr 6 gx (by decide) (by decide)).trans x6, gr, (rr 35 gm (by decide) (by decide)).trans b1, (rr 36 gm (by decide) (by decide)).trans b2, (rr 37 gm (by decide) (by decide)).trans b3, (rr 38 gm (by decide) (by decide)).trans b4⟩
  have hl : e.1 = 125 ∨ e.1 = 129 ∨ e.1 = 133 ∨ e.1 = 138 := by
    revert e
    decide
  rcases hl with h1 | h1 | h1 | h1
  · exact (rr e.2.1 (show G (w e.1) = (1001, 0) by rw [h1]; exact ga.g125) (by decide) (by decide)).trans (gb e he)
  · exact (rr e.2.1 (show G (w e.1) = (5104, 3) by rw [h1]; exact ga.g129) (by decide) (by decide)).trans (gb e he)
  · exact (rr e.2.1 (show G (w e.1) = (7104, 3) by rw [h1]; exact ga.g133) (by decide) (by decide)).trans (gb e he)
  · exact (rr e.2.1 (show G (w e.1) = (10104, 3) by rw [h1]; exact ga.g138) (by decide) (by decide)).trans (gb e he)
/-- between plain of the class and of the reference -/
def lq_Vq (G : mj_G) (M : mj_M) (x m s kp kc : Nat) (w : Nat → Nat) (c : Int) (y : rv_Om) : Prop := lq_Vg G M x m w ∧ lq_Vc M m c ∧ ∃ A, lq_Vk A M m kp kc w ∧ lq_Vs A M m w ∧ lq_Vp A M m w ∧ (∀ e, y = .inl e → M.1 x 13 = M.1 m 26 ∧ lq_Vn A M m s w) ∧ (∀ e, y = .inr e → M.1 x 13 = M.1 m 26 + 1 ∧ ∀ p q, lq_N M w p q → M.1 (w p) 9 = M.1 m 26 + 1)
abbrev lq_k8 (M : mj_M) (kp kc : Nat) : Prop := ∀ k, k < 2 → M.1 kc k ≠ 0 → 0 ≤ M.1 kp (538 * k) ∧ M.1 kp (538 * k) ≤ 8
set_option maxRecDepth 100000 in
theorem lq_V.pl1 {y : rv_Om} (h : lq_V G M x m s kp kc w c) (hc9 : c ≤ 1000000) (h8 : 0 ≤ M.1 s 0 ∧ M.1 s 0 ≤ 8) (hk8 : lq_k8 M kp kc) (hA : lq_A G w) (gx : G x = (1011, 0)) (gm : G m = (1012, 0)) (gtp : G tp = (1008, 0)) (gs : G s = (51100, 537)) (gk : G kp = (70100, 1076)) (gc : G kc = (48102, 2)) (py : lq_py G M M' x tp w y) : lq_Vq G M' x m s kp kc w c y := by
  obtain ⟨p, q, oa, dl, fa, sa, ca, se, ye, ud, hN, goa, hX, hF, hO⟩ := py
  obtain ⟨⟨-, g74, g29, gse, gye, gud, gdl, gfa, gsa, gca, -⟩, -⟩ := hX
  obtain ⟨gq, gqn, -, -, gqw, gqt, gqb⟩ := hA.2.1 q hN.qin.1
  have ga := h.1.1
  have gr := h.1.2.2.2.1
  have nip : ∀ P, P ∈ lq_Ps → P ≠ q → w P ≠ w q := fun P hP hne e => by
    have h4 := lq_P4 hP
    have h5 := lq_P4 hN.qin.1
    exact hne (hA.1 _ _ (by omega) (by omega) e)
  rcases y with e | ⟨PL, WA, OA, TO, BI, nm, r⟩
  · obtain ⟨⟨f2, fl, f1⟩, f13⟩ := hF e rfl
    have tg : ∀ {a t u : Nat}, G a = (t, u) → t ≠ 1004 → t ≠ 26100 → t ≠ 28100 → t ≠ 29100 → t ≠ 30100 → t ≠ 1011 → t ≠ 1008 → M'.1 a = M.1 a := fun ga n1 n4 n6 n7 n8 n9 n10 => f1 _ (hn_ne ga gx n9) (hn_ne ga gtp n10) (hn_ne ga gq n1) (hn_ne ga gqw n7) (hn_ne ga goa n8) (fun t ht => hn_ne ga (gqt t ht) n4) (fun t ht => hn_ne ga (gqb t ht) n6)
    have tp_ : ∀ P, P ∈ lq_Ps → P ≠ q → M'.1 (w P) = M.1 (w P) := fun P hP hne => by
      have g := (hA.2.1 P hP).1
      exact f1 _ (hn_ne g gx (by decide)) (hn_ne g gtp (by decide)) (nip P hP hne) (hn_ne g gqw (by decide)) (hn_ne g goa (by decide)) (fun t ht => hn_ne g (gqt t ht) (by decide)) (fun t ht => hn_ne g (gqb t ht) (by decide))
    obtain ⟨v1, v2, v3, A, v4, v5, v6, v7⟩ := h.cg (c' := c) (Int.le_refl _) h8 (h.1.rf hA gx gm gtp (fun a j h1 _ _ => f2 a j h1)) (f2 _ _ (fun e => hn_ne g29 gtp (by decide) e.1)) (f2 _ _ (fun e => hn_ne g74 gtp (by decide) e.1)) f13 (fun k _ => congrFun (tg gm (by decide) (by decide) (by decide) (by decide) (by decide) (by decide) (by decide)) k) (fun k _ _ => congrFun (tg ga.g125 (by decide) (by decide) (by decide) (by decide) (by decide) (by decide) (by decide)) k) (tg ga.g126 (by decide) (by decide) (by decide) (by decide) (by decide) (by decide) (by decide)) (tg gr.2.2.2 (by decide) (by decide) (by decide) (by decide) (by decide) (by decide) (by decide)) (fun P hP hne => congrFun (tp_ P hP (hne p q hN)) 9) (fun j _ => congrFun (tg gs (by decide) (by decide) (by decide) (by decide) (by decide) (by decide) (by decide)) j) (tg gk (by decide) (by decide) (by decide) (by decide) (by decide) (by decide) (by decide)) (tg gc (by decide) (by decide) (by decide) (by decide) (by decide) (by decide) (by decide))
    exact ⟨v1, v2, A, v5, v6, v7, fun _ _ => ⟨v3, v4⟩, fun _ e => by cases e⟩
  · obtain ⟨⟨o1, o2, o3, o4, o5, o6, o7, o8, o9, fo⟩, -, -, -, -, -, -, x13, pl9⟩ := hO _ _ _ _ _ _ _ rfl
    have tg : ∀ {a t u : Nat}, G a = (t, u) → t ≠ 1004 → t ≠ 26100 → t ≠ 28100 → t ≠ 29100 → t ≠ 30100 → t ≠ 1011 → t ≠ 1008 → t ≠ 1002 → t ≠ 16100 → t ≠ 17100 → t ≠ 18100 → t ≠ 1006 → t ≠ 1010 → t ≠ 1009 → M'.1 a = M.1 a := fun ga n1 n4 n6 n7 n8 n9 n10 m1 m2 m3 m4 m5 m6 m7 => fo _ (hn_ne ga gx n9) (hn_ne ga gtp n10) (hn_ne ga gq n1) (hn_ne ga gqw n7) (hn_ne ga goa n8) (fun t ht => hn_ne ga (gqt t ht) n4) (fun t ht => hn_ne ga (gqb t ht) n6) (hn_ne ga gdl m1) (hn_ne ga gfa m2) (hn_ne ga gsa m3) (hn_ne ga gca m4) (hn_ne ga gse m5) (hn_ne ga gye m6) (hn_ne ga gud m7)
    have tp_ : ∀ P, P ∈ lq_Ps → P ≠ q → M'.1 (w P) = M.1 (w P) := fun P hP hne => by
      have g := (hA.2.1 P hP).1
      exact fo _ (hn_ne g gx (by decide)) (hn_ne g gtp (by decide)) (nip P hP hne) (hn_ne g gqw (by decide)) (hn_ne g goa (by decide)) (fun t ht => hn_ne g (gqt t ht) (by decide)) (fun t ht => hn_ne g (gqb t ht) (by decide)) (hn_ne g gdl (by decide)) (hn_ne g gfa (by decide)) (hn_ne g gsa (by decide)) (hn_ne g gca (by decide)) (hn_ne g gse (by decide)) (hn_ne g gye (by decide)) (hn_ne g gud (by decide))
    obtain ⟨hg, ⟨c1, c2⟩, hx, A, ⟨a1, a2, a3⟩, hk, hs, hp⟩ := h
    have em : ∀ k, M'.1 m k = M.1 m k := fun k => congrFun (tg gm (by decide) (by decide) (by decide) (by decide) (by decide) (by decide) (by decide) (by decide) (by decide) (by decide) (by decide) (by decide) (by decide) (by decide)) k
    have e125 : ∀ k, M'.1 (w 125) k = M.1 (w 125) k := fun k => congrFun (tg ga.g125 (by decide) (by decide) (by decide) (by decide) (by decide) (by decide) (by decide) (by decide) (by decide) (by decide) (by decide) (by decide) (by decide) (by decide)) k
    have ek := tg gk (by decide) (by decide) (by decide) (by decide) (by decide) (by decide) (by decide) (by decide) (by decide) (by decide) (by decide) (by decide) (by decide) (by decide)
    have ec := tg gc (by decide) (by decide) (by decide) (by decide) (by decide) (by decide) (by decide) (by decide) (by decide) (by decide) (by decide) (by decide) (by decide) (by decide)
    have ex : M'.1 x 13 = M'.1 m 26 + 1 := by rw [x13, hx, em, cs_inc c1 (by omega)]
    refine ⟨hg.rf hA gx gm gtp (fun a j h1 h2 h3 => o8 a j h1 h2 h3), ⟨by rw [em]; exact c1, by rw [em]; exact c2⟩, A, fun k hk2 h0 => ?_, hs.cg (fun k _ _ => e125 k) (tg ga.g126 (by decide) (by decide) (by decide) (by decide) (by decide) (by decide) (by decide) (by decide) (by decide) (by decide) (by decide) (by decide) (by decide) (by decide)) (by rw [em]; exact Int.le_refl _) (fun _ _ _ => rfl), hp.cg (fun k _ _ => e125 k) (tg ga.g126 (by decide) (by decide) (by decide) (by decide) (by decide) (by decide) (by decide) (by decide) (by decide) (by decide) (by decide) (by decide) (by decide) (by decide)) ⟨em 39, em 40⟩ (tg gr.2.2.2 (by decide) (by decide) (by decide) (by decide) (by decide) (by decide) (by decide) (by decide) (by decide) (by decide) (by decide) (by decide) (by decide) (by decide)) (by rw [em]; exact Int.le_refl _) (fun _ _ _ => rfl), (fun _ e => by cases e), fun _ _ => ⟨ex, fun p' q' hn => ?_⟩⟩
    · rw [ec] at h0
      exact (hk k hk2 h0).cg (congrFun (tp_ _ (lq_ip_in k) (hN.nip k)) 9) (fun j _ => by rw [ek]) (hk8 k hk2 h0) (by rw [em]; exact Int.le_refl _) (fun _ _ _ => rfl)
    · have e1 := Option.some.inj (hn.1.symm.trans o6)
      have hp' := lq_P4 hn.pin.1
      have hq' := lq_P4 hN.qin.1
      have : p' = q := hA.1 _ _ (by omega) (by omega) e1
      rw [this, pl9]; exact ex
abbrev lq_Vy (W : List (Nat × Nat × Nat)) : Prop := ∀ q ∈ W, q.1 ≠ 70100 ∧ q.1 ≠ 48102 ∧ (q.1 ≠ 1012 ∨ (q.2.2 < 35 ∨ 38 < q.2.1)) ∧ q.1 ≠ 1011 ∧ q.1 ≠ 1007 ∧ q.1 ≠ 1004 ∧ q.1 ≠ 1001 ∧ q.1 ≠ 2100 ∧ q.1 ≠ 5104 ∧ q.1 ≠ 7104 ∧ q.1 ≠ 10104 ∧ q.1 ≠ 61100
/-- what a call of the reference's leaves -/
theorem lq_Vy.ss {W : List (Nat × Nat × Nat)} (cW : lq_Vy W) (hg : lq_Vg G M x m w) (hA : lq_A G w) (gx : G x = (1011, 0)) (gm : G m = (1012, 0)) (f : ab_frm W G M M') : lq_Vg G M' x m w ∧ M'.2.2 (w 29) 0 = M.2.2 (w 29) 0 ∧ M'.2.2 (w 74) 0 = M.2.2 (w 74) 0 ∧ M'.1 x 13 = M.1 x 13 ∧ (∀ k, M'.1 (w 125) k = M.1 (w 125) k) ∧ M'.1 (w 126) = M.1 (w 126) ∧ M'.1 (w 348) = M.1 (w 348) ∧ (∀ P, P ∈ lq_Ps → M'.1 (w P) 9 = M.1 (w P) 9) := by
  have ga := hg.1
  have gr := hg.2.2.2.1
  refine ⟨hg.go gx gm f (fun q hq => ?_), (f _ 0 (by rw [hA.2.2.1]; rintro ⟨r, hr, e1, e2, e3⟩; exact (cW r hr).2.2.2.2.1 e1)).2, (f _ 0 (by rw [hA.2.2.2.1]; rintro ⟨r, hr, e1, e2, e3⟩; exact (cW r hr).2.2.2.2.1 e1)).2, (f x 13 (by rw [gx]; rintro ⟨r, hr, e1, e2, e3⟩; exact (cW r hr).2.2.2.1 e1)).1, fun k => (f _ k (by rw [ga.g125]; rintro ⟨r, hr, e1, e2, e3⟩; exact (cW r hr).2.2.2.2.2.2.1 e1)).1, funext fun k => (f _ k (by rw [ga.g126]; rintro ⟨r, hr, e1, e2, e3⟩; exact (cW r hr).2.2.2.2.2.2.2.1 e1)).1, funext fun k => (f _ k (by rw [gr.2.2.2]; rintro ⟨r, hr, e1, e2, e3⟩; exact (cW r hr).2.2.2.2.2.2.2.2.2.2.2 e1)).1, fun P hP => (f _ 9 (by rw [(hA.2.1 P hP).1]; rintro ⟨r, hr, e1, e2, e3⟩; exact (cW r hr).2.2.2.2.2.1 e1)).1⟩
  have q9 := cW q hq
  exact ⟨q9.2.2.1, Or.inl q9.2.2.2.1, Or.inl q9.2.2.2.2.2.2.1, q9.2.2.2.2.2.2.2.2.1, q9.2.2.2.2.2.2.2.2.2.1, q9.2.2.2.2.2.2.2.2.2.2.1⟩
theorem lq_Vq.pl2 {y : rv_Om} {W : List (Nat × Nat × Nat)} (h : lq_Vq G M x m s kp kc w c y) (hc9 : c ≤ 1000000) (h8 : 0 ≤ M.1 s 0 ∧ M.1 s 0 ≤ 8) (hk8 : lq_k8 M kp kc) (hA : lq_A G w) (gx : G x = (1011, 0)) (gm : G m = (1012, 0)) (gk : G kp = (70100, 1076)) (gc : G kc = (48102, 2)) (f : ab_frm W G M M') (cW : lq_Vy W) (f9 : M'.1 m 39 = M.1 m 39 ∧ M'.1 m 40 = M.1 m 40) (pz : lq_pz M M' s m y) : lq_V G M' x m s kp kc w (c + 1) := by
  obtain ⟨hg, ⟨c1, c2⟩, A, hk, hs, hp, h1, h2⟩ := h
  obtain ⟨hg', n1, n2, ex, e125, e126, e348, e9⟩ := lq_Vy.ss cW hg hA gx gm f
  have ek : M'.1 kp = M.1 kp := funext fun k => (f kp k (by rw [gk]; rintro ⟨r, hr, e1, e2, e3⟩; exact (cW r hr).1 e1)).1
  have ec : M'.1 kc = M.1 kc := funext fun k => (f kc k (by rw [gc]; rintro ⟨r, hr, e1, e2, e3⟩; exact (cW r hr).2.1 e1)).1
  rcases y with e | ⟨PL, WA, OA, TO, BI, nm, r⟩
  · obtain ⟨hx, hn⟩ := h1 e rfl
    obtain ⟨ha, es, em, -⟩ := pz.1 e rfl
    exact lq_V.cg (c := c) ⟨hg, ⟨c1, c2⟩, hx, A, hn, hk, hs, hp⟩ (by omega) h8 hg' n1 n2 ex (fun k hk => em k (by omega)) (fun k _ _ => e125 k) e126 e348 (fun P hP _ => e9 P hP) (fun j _ => by rw [es]) ek ec
  · obtain ⟨hx, hn⟩ := h2 _ rfl
    obtain ⟨ns, -, -, x26, x25⟩ := pz.2 _ _ _ _ _ _ _ rfl
    rw [cs_inc c1 (by omega)] at x26 x25
    refine ⟨hg', ⟨by rw [x26]; omega, by rw [x26]; omega⟩, by rw [ex, x26]; exact hx, fun z => if z = M.1 m 26 + 1 then cs_A (M'.1 s) else A z, ⟨by rw [x25, x26]; omega, fun p q hn' => ?_, ?_⟩, fun k hk2 h0 => ?_, hs.cg (fun k _ _ => e125 k) e126 (by rw [x26]; omega) (fun v h3 h4 => if_neg (by omega)), hp.cg (fun k _ _ => e125 k) e126 f9 e348 (by rw [x26]; omega) (fun v h3 h4 => if_neg (by omega))⟩
    · have hn0 := lq_N.back n1 n2 hn'
      rw [e9 p hn0.pin.1, x25]; exact hn p q hn0
    · show (if M'.1 m 25 = M.1 m 26 + 1 then cs_A (M'.1 s) else A (M'.1 m 25)) = _
      rw [if_pos x25]
    · rw [ec] at h0
      exact (hk k hk2 h0).cg (e9 _ (lq_ip_in k)) (fun j _ => by rw [ek]) (hk8 k hk2 h0) (by rw [x26]; omega) (fun v h3 h4 => if_neg (by omega))
/-- between image of the class and of the reference -/
def lq_Vi (G : mj_G) (M : mj_M) (x m s kp kc : Nat) (w : Nat → Nat) (c z1 : Int) : Prop := lq_Vg G M x m w ∧ lq_Vc M m c ∧ M.1 x 13 = M.1 m 26 ∧ ∃ A, lq_Vn A M m s w ∧ (∀ k : Nat, k < 2 → (z1 ≠ (k : Int) → M.1 kc k ≠ 0 → lq_V1 A M m kp w k) ∧ (z1 = (k : Int) → M.1 (w (lq_ip k)) 9 = M.1 m 25)) ∧ lq_Vs A M m w ∧ lq_Vp A M m w
theorem lq_Vg.no (h : lq_Vg G M x m w) (gx : G x = (1011, 0)) (gm : G m = (1012, 0)) (r : ∀ a k, rv_no (G a).1 → M'.2.2 a k = M.2.2 a k) : lq_Vg G M' x m w := by
  obtain ⟨ga, gb, x6, gr, b1, b2, b3, b4⟩ := h
  have rr : ∀ {a t n : Nat} (j : Nat), G a = (t, n) → rv_no t → M'.2.2 a j = M.2.2 a j := fun j g h1 => r _ j (by rw [g]; exact h1)
  have n11 : rv_no 1011 := by unfold rv_no; decide
  have n12 : rv_no 1012 := by unfold rv_no; decide
  refine ⟨ga, fun e he => ?_, (rr 6 gx n11).trans x6, gr, (rr 35 gm n12).trans b1, (rr 36 gm n12).trans b2, (rr 37 gm n12).trans b3, (rr 38 gm n12).trans b4⟩
  have hl : e.1 = 125 ∨ e.1 = 129 ∨ e.1 = 133 ∨ e.1 = 138 := by
    revert e
    decide
  rcases hl with h1 | h1 | h1 | h1
  · exact (rr e.2.1 (show G (w e.1) = (1001, 0) by rw [h1]; exact ga.g125) (by unfold rv_no; decide)).trans (gb e he)
  · exact (rr e.2.1 (show G (w e.1) = (5104, 3) by rw [h1]; exact ga.g129) (by unfold rv_no; decide)).trans (gb e he)
  · exact (rr e.2.1 (show G (w e.1) = (7104, 3) by rw [h1]; exact ga.g133) (by unfold rv_no; decide)).trans (gb e he)
  · exact (rr e.2.1 (show G (w e.1) = (10104, 3) by rw [h1]; exact ga.g138) (by unfold rv_no; decide)).trans (gb e he)
/-- a copy of a PLAIN, as the numbers see it -/
theorem lq_cp.V {p P : Nat} (cp : lq_cp G w p P M M') (hA : lq_A G w) (hP : P ∈ lq_Ps) (h : lq_Vg G M x m w) (gx : G x = (1011, 0)) (gm : G m = (1012, 0)) : M'.1 (w P) 9 = M.1 (w p) 9 ∧ (∀ R, R ∈ lq_Ps → R ≠ P → M'.1 (w R) 9 = M.1 (w R) 9) ∧ lq_Vg G M' x m w ∧ M'.2.2 (w 29) 0 = M.2.2 (w 29) 0 ∧ M'.2.2 (w 74) 0 = M.2.2 (w 74) 0 ∧ M'.1 x = M.1 x ∧ M'.1 m = M.1 m ∧ M'.1 (w 125) = M.1 (w 125) ∧ M'.1 (w 126) = M.1 (w 126) ∧ M'.1 (w 348) = M.1 (w 348) := by
  have ga := h.1
  have gr := h.2.2.2.1
  obtain ⟨q1, -, -, -, q5, q6⟩ := id cp
  obtain ⟨gp, gpn, -, -, gpw, gpt, gpb⟩ := hA.2.1 P hP
  refine ⟨q1 9 (by decide) (by decide), fun R hR hne => ?_, h.no gx gm q5, q5 _ _ (by rw [hA.2.2.1]; unfold rv_no; decide), q5 _ _ (by rw [hA.2.2.2.1]; unfold rv_no; decide), cp.o hA hP gx (by unfold rv_no; decide) (by decide) (by decide) (by decide) (by decide), cp.o hA hP gm (by unfold rv_no; decide) (by decide) (by decide) (by decide) (by decide), cp.o hA hP ga.g125 (by unfold rv_no; decide) (by decide) (by decide) (by decide) (by decide), cp.o hA hP ga.g126 (by unfold rv_no; decide) (by decide) (by decide) (by decide) (by decide), cp.o hA hP gr.2.2.2 (by unfold rv_no; decide) (by decide) (by decide) (by decide) (by decide)⟩
  have g := (hA.2.1 R hR).1
  refine congrFun (q6 _ (by rw [g]; unfold rv_no; decide) (fun e => ?_) (hn_ne g gpw (by decide)) (fun t ht => hn_ne g (gpt t ht) (by decide)) (fun t ht => hn_ne g (gpb t ht) (by decide))) 9
  have h4 := lq_P4 hP
  have h5 := lq_P4 hR
  exact hne (hA.1 _ _ (by omega) (by omega) e)
def lq_iV (G : mj_G) (M M' : mj_M) (kc : Nat) (w : Nat → Nat) (z1 : Int) : Prop := ∃ p q, lq_N M w p q ∧ (¬ (0 ≤ z1 ∧ z1 ≤ 1) → M' = M) ∧ (∀ k : Nat, k < 2 → z1 = (k : Int) → ∃ M1, M' = mj_p0 M1 kc k 1 ∧ lq_cp G w p (lq_ip k) M M1)
theorem lq_imgV (hI : ab_Inv G M) (gx : G x = (1011, 0)) (x4 : M.2.2 x 4 = some kc) (gkc : G kc = (48102, 2)) (hJ : lq_J G M x s kp kc w) : mj_R mj_tab 40 127 [.inr (.inr (some x)), .inl z1] G M (fun _ G' M' => G' = G ∧ lq_iV G M M' kc w z1) := by
  obtain ⟨hA, hB, p, q, hN, h1, h2⟩ := hJ
  refine r_X11_image4 hI gx hA hB hN x4 gkc (fun h0 => ⟨rfl, p, q, hN, fun _ => rfl, fun k hk e => absurd ⟨by omega, by omega⟩ h0⟩) (fun k0 hk0 e0 M1 cp _ => ⟨rfl, p, q, hN, fun n => absurd ⟨by omega, by omega⟩ n, fun k hk e => ?_⟩)
  obtain rfl : k = k0 := by omega
  exact ⟨M1, rfl, cp⟩
theorem lq_iV.kcs (iV : lq_iV G M M' kc w z1) (hA : lq_A G w) (gc : G kc = (48102, 2)) : ∀ k : Nat, k < 2 → z1 ≠ (k : Int) → M'.1 kc k = M.1 kc k := by
  obtain ⟨p, q, hN, i0, i1⟩ := iV
  intro k hk hz
  by_cases h0 : 0 ≤ z1 ∧ z1 ≤ 1
  · obtain ⟨M1, e1, cp⟩ := i1 z1.toNat (by omega) (by omega)
    rw [e1, hn_n (Or.inr (by omega))]
    exact congrFun (cp.o hA (lq_ip_in _) gc (by unfold rv_no; decide) (by decide) (by decide) (by decide) (by decide)) k
  · rw [i0 h0]
theorem lq_V.im1 (h : lq_V G M x m s kp kc w c) (h8 : 0 ≤ M.1 s 0 ∧ M.1 s 0 ≤ 8) (hk8 : lq_k8 M kp kc) (hA : lq_A G w) (gx : G x = (1011, 0)) (gm : G m = (1012, 0)) (gc : G kc = (48102, 2)) (es : M'.1 s = M.1 s) (ek : M'.1 kp = M.1 kp) (iV : lq_iV G M M' kc w z1) : lq_Vi G M' x m s kp kc w c z1 := by
  obtain ⟨p, q, hN, i0, i1⟩ := iV
  obtain ⟨hg, ⟨c1, c2⟩, hx, A, ⟨a1, a2, a3⟩, hk, hs, hp⟩ := h
  by_cases hz : 0 ≤ z1 ∧ z1 ≤ 1
  · obtain ⟨k0, hk0, e0⟩ : ∃ k : Nat, k < 2 ∧ z1 = (k : Int) := ⟨z1.toNat, by omega, by omega⟩
    obtain ⟨M1, e1, cp⟩ := i1 k0 hk0 e0
    obtain ⟨q1, q2, q3, q4, q5, q6, q7, q8, q9, q0⟩ := cp.V hA (lq_ip_in k0) hg gx gm
    have ne : ∀ {a t n : Nat}, G a = (t, n) → t ≠ 48102 → M'.1 a = M1.1 a := fun g h => by rw [e1]; exact wz_c (hn_ne g gc h)
    have rr : M'.2.2 = M1.2.2 := by rw [e1]; rfl
    have ga := hg.1
    have gr := hg.2.2.2.1
    have gP : ∀ P, P ∈ lq_Ps → M'.1 (w P) = M1.1 (w P) := fun P hP => ne (hA.2.1 P hP).1 (by decide)
    have em : M'.1 m = M.1 m := (ne gm (by decide)).trans q7
    have e125 : M'.1 (w 125) = M.1 (w 125) := (ne ga.g125 (by decide)).trans q8
    have e126 : M'.1 (w 126) = M.1 (w 126) := (ne ga.g126 (by decide)).trans q9
    have ec : ∀ k, k ≠ k0 → k < 2 → M'.1 kc k = M.1 kc k := fun k hk _ => by
      rw [e1, hn_n (Or.inr hk)]
      exact congrFun (cp.o hA (lq_ip_in k0) gc (by unfold rv_no; decide) (by decide) (by decide) (by decide) (by decide)) k
    have hg' : lq_Vg G M' x m w := by
      obtain ⟨g1, g2, g3, g4, g5⟩ := q3
      exact ⟨g1, by unfold cp_BA; rw [rr]; exact g2, by rw [rr]; exact g3, g4, by unfold cp_BR; rw [rr]; exact g5⟩
    refine ⟨hg', ⟨by rw [em]; exact c1, by rw [em]; exact c2⟩, by rw [ne gx (by decide), q6, em]; exact hx, A, ⟨by rw [em]; exact a1, fun p' q' hn => ?_, by rw [em, es]; exact a3⟩, fun k hk2 => ⟨fun hz2 h0 => ?_, fun hz2 => ?_⟩, hs.cg (fun k _ _ => by rw [e125]) e126 (by rw [em]; exact Int.le_refl _) (fun _ _ _ => rfl), hp.cg (fun k _ _ => by rw [e125]) e126 ⟨by rw [em], by rw [em]⟩ ((ne gr.2.2.2 (by decide)).trans q0) (by rw [em]; exact Int.le_refl _) (fun _ _ _ => rfl)⟩
    · have hn0 : lq_N M w p' q' := lq_N.back (by rw [rr]; exact q4) (by rw [rr]; exact q5) hn
      rw [gP p' hn0.pin.1, q2 p' hn0.pin.1 (hn0.pin.2 k0), em]
      exact a2 p' q' hn0
    · have hne : k ≠ k0 := fun e => hz2 (by rw [e]; exact e0)
      rw [ec k hne hk2] at h0
      exact (hk k hk2 h0).cg (by rw [gP _ (lq_ip_in k)]; exact q2 _ (lq_ip_in k) (lq_ip_ne hk2 hk0 hne)) (fun j _ => by rw [ek]) (hk8 k hk2 h0) (by rw [em]; exact Int.le_refl _) (fun _ _ _ => rfl)
    · obtain rfl : k = k0 := by omega
      rw [gP _ (lq_ip_in k), q1, em]
      exact a2 p q hN
  · have e := i0 hz
    subst e
    exact ⟨hg, ⟨c1, c2⟩, hx, A, ⟨a1, a2, a3⟩, fun k hk2 => ⟨fun _ h0 => hk k hk2 h0, fun e => absurd ⟨by omega, by omega⟩ hz⟩, hs, hp⟩
theorem lq_Vi.im2 {ik : Nat} {W : List (Nat × Nat × Nat)} (h : lq_Vi G M x m s kp kc w c z1) (h8 : 0 ≤ M.1 s 0 ∧ M.1 s 0 ≤ 8) (hk8 : ∀ k : Nat, k < 2 → z1 ≠ (k : Int) → M.1 kc k ≠ 0 → 0 ≤ M.1 kp (538 * k) ∧ M.1 kp (538 * k) ≤ 8) (hA : lq_A G w) (gx : G x = (1011, 0)) (gm : G m = (1012, 0)) (gs : G s = (51100, 537)) (gc : G kc = (48102, 2)) (f : ab_frm W G M M') (cW : ∀ q ∈ W, q.1 ≠ 51100 ∧ q.1 ≠ 48102 ∧ (q.1 ≠ 1012 ∨ q.2.2 < 25) ∧ q.1 ≠ 1011 ∧ q.1 ≠ 1007 ∧ q.1 ≠ 1004 ∧ q.1 ≠ 1001 ∧ q.1 ≠ 2100 ∧ q.1 ≠ 5104 ∧ q.1 ≠ 7104 ∧ q.1 ≠ 10104 ∧ q.1 ≠ 61100) (mz : ∃ nk ns, rq_mz M M' m kp nk ns z1) (o : (¬ (0 ≤ z1 ∧ z1 ≤ 1) ∧ (∀ q, M'.1 ik q = M.1 ik q) ∧ M'.1 kp = M.1 kp) ∨ (∃ k : Nat, k ≤ 1 ∧ z1 = (k : Int) ∧ M'.1 ik k = 1 ∧ (∀ q, q ≠ k → M'.1 ik q = M.1 ik q) ∧ (∀ p, p < 537 → M'.1 kp (538 * k + p) = M.1 s p) ∧ (∀ q, q < 538 * k ∨ 538 * k + 538 ≤ q → M'.1 kp q = M.1 kp q))) : lq_V G M' x m s kp kc w c := by
  obtain ⟨nk, ns, -, mz⟩ := mz
  obtain ⟨hg, ⟨c1, c2⟩, hx, A, ⟨a1, a2, a3⟩, hk, hs, hp⟩ := h
  have ga := hg.1
  have gr := hg.2.2.2.1
  have hg' : lq_Vg G M' x m w := hg.go gx gm f (fun q hq => by
    have q9 := cW q hq
    exact ⟨by omega, Or.inl q9.2.2.2.1, Or.inl q9.2.2.2.2.2.2.1, q9.2.2.2.2.2.2.2.2.1, q9.2.2.2.2.2.2.2.2.2.1, q9.2.2.2.2.2.2.2.2.2.2.1⟩)
  have fr : ∀ {a t n : Nat} (k : Nat), G a = (t, n) → (∀ q ∈ W, q.1 ≠ t) → M'.1 a k = M.1 a k ∧ M'.2.2 a k = M.2.2 a k := fun k g hh => f _ k (by rw [g]; rintro ⟨r, hr, e1, e2, e3⟩; exact hh r hr e1)
  have em : ∀ k, 25 ≤ k → M'.1 m k = M.1 m k := fun k h1 => (f m k (by rw [gm]; rintro ⟨r, hr, e1, e2, e3⟩; have := (cW r hr).2.2.1; omega)).1
  have n1 := (fr 0 hA.2.2.1 (fun q hq => (cW q hq).2.2.2.2.1)).2
  have n2 := (fr 0 hA.2.2.2.1 (fun q hq => (cW q hq).2.2.2.2.1)).2
  have ex := (fr 13 gx (fun q hq => (cW q hq).2.2.2.1)).1
  have e125 : ∀ k, M'.1 (w 125) k = M.1 (w 125) k := fun k => (fr k ga.g125 (fun q hq => (cW q hq).2.2.2.2.2.2.1)).1
  have e126 : M'.1 (w 126) = M.1 (w 126) := funext fun k => (fr k ga.g126 (fun q hq => (cW q hq).2.2.2.2.2.2.2.1)).1
  have e348 : M'.1 (w 348) = M.1 (w 348) := funext fun k => (fr k gr.2.2.2 (fun q hq => (cW q hq).2.2.2.2.2.2.2.2.2.2.2)).1
  have e9 : ∀ P, P ∈ lq_Ps → M'.1 (w P) 9 = M.1 (w P) 9 := fun P hP => (fr 9 (hA.2.1 P hP).1 (fun q hq => (cW q hq).2.2.2.2.2.1)).1
  have es : M'.1 s = M.1 s := funext fun k => (fr k gs (fun q hq => (cW q hq).1)).1
  have ec : ∀ k, M'.1 kc k = M.1 kc k := fun k => (fr k gc (fun q hq => (cW q hq).2.1)).1
  refine ⟨hg', ⟨by rw [em 26 (by decide)]; exact c1, by rw [em 26 (by decide)]; exact c2⟩, by rw [ex, em 26 (by decide)]; exact hx, A, ⟨by rw [em 25 (by decide), em 26 (by decide)]; exact a1, fun p q hn => ?_, by rw [em 25 (by decide), es]; exact a3⟩, fun k hk2 h0 => ?_, hs.cg (fun k _ _ => e125 k) e126 (by rw [em 26 (by decide)]; exact Int.le_refl _) (fun _ _ _ => rfl), hp.cg (fun k _ _ => e125 k) e126 ⟨em 39 (by decide), em 40 (by decide)⟩ e348 (by rw [em 26 (by decide)]; exact Int.le_refl _) (fun _ _ _ => rfl)⟩
  · have hn0 := lq_N.back n1 n2 hn
    rw [e9 p hn0.pin.1, em 25 (by decide)]; exact a2 p q hn0
  · rw [ec] at h0
    rcases o with ⟨oz, -, ok⟩ | ⟨k0, hk0, e0, -, -, o1, o2⟩
    · exact ((hk k hk2).1 (fun e => oz (by omega)) h0).cg (e9 _ (lq_ip_in k)) (fun j _ => by rw [ok]) (hk8 k hk2 (fun e => oz (by omega)) h0) (by rw [em 26 (by decide)]; exact Int.le_refl _) (fun _ _ _ => rfl)
    · by_cases e : k = k0
      · subst e
        obtain ⟨-, -, mk, -⟩ := mz k hk2 e0
        unfold lq_V1
        rw [e9 _ (lq_ip_in k), (hk k hk2).2 e0, mk, em 26 (by decide), a3]
        exact ⟨rfl, a1, cs_A_H (fun j hj => (o1 j (by omega)).symm) h8⟩
      · exact ((hk k hk2).1 (fun e3 => e (by omega)) h0).cg (e9 _ (lq_ip_in k)) (fun j hj => o2 _ (by omega)) (hk8 k hk2 (fun e3 => e (by omega)) h0) (by rw [em 26 (by decide)]; exact Int.le_refl _) (fun _ _ _ => rfl)
end VP
end
