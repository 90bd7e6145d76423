/-! ===== the cheapest letting: the class, searchPlan and solve (laid by a program) ===== -/
/-- what a search leaves: all but its own rows, its plan, its marks -/
def sp_Z (w : Nat → Nat) (M0 M : mj_M) : Prop := M.2 = M0.2 ∧ (∀ a, (∀ i, 125 ≤ i → i ≤ 145 → a ≠ w i) → M.1 a = M0.1 a) ∧ (∀ k, 1 ≤ k → k ≤ 4 → M.1 (w 125) k = M0.1 (w 125) k) ∧ M.1 (w 126) = M0.1 (w 126)
section SZ
variable {G : mj_G} {w : Nat → Nat} {M0 M1 M : mj_M} {H : Nat → Int} {t5 t6 tl bp v : Int} {BR LA RB TC TT PA BE : Nat → Int} {GN RS TG : Nat → Nat → Int} {k : Nat}
theorem sp_Z.re : sp_Z w M M := ⟨rfl, fun _ _ => rfl, fun _ _ _ => rfl, rfl⟩
theorem sp_Z.tr (h : sp_Z w M0 M1) (g : sp_Z w M1 M) : sp_Z w M0 M := ⟨g.1.trans h.1, fun a n => (g.2.1 a n).trans (h.2.1 a n), fun k h1 h2 => (g.2.2.1 k h1 h2).trans (h.2.2.1 k h1 h2), g.2.2.2.trans h.2.2.2⟩
theorem sp_Z.pr (ga : cp_GA G w) (h : cq_C w M0 t5 t6 BR LA GN RS RB M) : sp_Z w M0 M := ⟨h.1, fun a n => h.2.1 a (fun i hi => n i (by omega) (by omega)), fun k h1 h2 => h.2.2.1 k (by omega) (by omega), h.2.1 _ (fun i hi => ga.ne (by omega) (by omega) (by omega))⟩
theorem sp_Z.li (ga : cp_GA G w) (h : ct_C w M0 tl TG TC TT M) : sp_Z w M0 M := ⟨h.1, fun a n => h.2.1 a (fun i hi => n i (by omega) (by omega)), fun k h1 h2 => h.2.2.1 k (by omega), h.2.1 _ (fun i hi => ga.ne (by omega) (by omega) (by omega))⟩
theorem sp_Z.se (ga : cp_GA G w) (h : cc_C w M0 LA PA BE bp M) : sp_Z w M0 M := ⟨h.1, fun a n => h.2.1 a ⟨n _ (by decide) (by decide), n _ (by decide) (by decide), n _ (by decide) (by decide), n _ (by decide) (by decide)⟩, fun k h1 h2 => h.2.2.1 k (by omega), h.2.1 _ (ga.nn (by decide) (by decide))⟩
theorem sp_Z.b18 (ga : cp_GA G w) : sp_Z w M (mj_p0 M (w 125) 18 v) := ⟨rfl, fun a n => wz_c (n _ (by decide) (by decide)), fun k h1 h2 => hn_n (Or.inr (by omega)), wz_c (ga.ne (by decide) (by decide) (by decide))⟩
end SZ
theorem r_sp2 {G : mj_G} {M0 M4 : mj_M} {w : Nat → Nat} {p s : Nat} {Q : mj_P} {d : Nat} {BE : Nat → Int} {bp : Int} (ga : cp_GA G w) (gb : cp_BA M4 w) (gpl : G (w p) = (1004, 0)) (h5 : M4.1 (w 125) 5 = M0.1 s 0) (h17 : ∀ k, k < 12 → M4.1 (w 145) k = BE k) (h9 : M4.1 (w p) 9 = M0.1 (w p) 9) (h18 : M4.1 (w 125) 18 = bp) : ∀ (n : Nat) (i : Int) (M5 : mj_M) (cb sb : Nat), i + n = 12 → 0 ≤ i → M5.2 = M4.2 → (∀ a, a ≠ w 126 → M5.1 a = M4.1 a) → (∀ j : Nat, (j : Int) < i → M5.1 (w 126) j = cs_pc (M0.1 s) (BE j)) → (∀ M5, M5.2 = M4.2 → (∀ a, a ≠ w 126 → M5.1 a = M4.1 a) → (∀ j, j < 12 → M5.1 (w 126) j = cs_pc (M0.1 s) (BE j)) → Q (some (.inl bp)) G (mj_p0 (mj_p0 M5 (w 125) 1 1) (w 125) 2 (M0.1 (w p) 9))) → wz d mt_X0_searchPlan.2.2.2.2.1 Q (mt_X0_searchPlan.2.2.2.2.1.drop 22) [some (.inr (.inr (some (w 125)))), some (.inr (.inr (some (w p)))), some (.inl i)] [] G M5 cb sb := by
  have n125 : w 125 ≠ w 126 := ga.ne (by decide) (by decide) (by decide)
  have n145 : w 145 ≠ w 126 := ga.ne (by decide) (by decide) (by decide)
  have npl : w p ≠ w 126 := hn_ne gpl ga.g126 (by decide)
  have npl2 : w p ≠ w 125 := hn_ne gpl ga.g125 (by decide)
  intro n
  induction n with
  | zero =>
    intro i M5 cb sb e i0 e2 eo ej h
    obtain rfl : i = 12 := by omega
    refine w_iln rfl ?_
    refine w_bp ?_
    refine w_cmge (fun c1 => ?_) (fun c1 => ?_)
    · skip
      refine w_aln rfl ?_
      refine w_ic ?_
      refine w_pi ga.g125 rfl (by decide) rfl (fun _ => by omega) ?_
      refine w_aln rfl ?_
      refine w_aln rfl ?_
      refine w_gi gpl rfl (by decide) rfl ((hn_n (Or.inl npl2)).trans ((congrFun (eo _ npl) 9).trans h9)) ?_
      refine w_pi ga.g125 rfl (by decide) rfl (fun q => by cases q) ?_
      refine w_aln rfl ?_
      refine w_gi ga.g125 rfl (by decide) rfl ((hn_n (Or.inr (by decide))).trans ((hn_n (Or.inr (by decide))).trans ((congrFun (eo _ n125) 18).trans h18))) ?_
      exact w_iret (fun q => by cases q) (h M5 e2 eo (fun j hj => ej j (by omega)))
    · exfalso; omega
  | succ n ih =>
    intro i M5 cb sb e i0 e2 eo ej h
    refine w_iln rfl ?_
    refine w_bp ?_
    refine w_cmge (fun c1 => ?_) (fun c1 => ?_)
    · exfalso; omega
    · skip
      refine w_aln rfl ?_
      refine w_gr ga.g125 rfl (by decide) rfl ((congrArg (fun z => z.2 (w 125) 0) e2).trans gb.r125_0) ?_
      refine w_iln rfl ?_
      refine w_aln rfl ?_
      refine w_gr ga.g125 rfl (by decide) rfl ((congrArg (fun z => z.2 (w 125) 17) e2).trans gb.r125_17) ?_
      refine w_iln rfl ?_
      refine w_iald (v := (BE i.toNat)) ga.g145 rfl (by show (0 : Int) ≤ i; omega) (by show i < ((12 : Nat) : Int); omega) (((congrFun (eo _ n145) _).trans (h17 _ (by omega)))) ?_
      refine w_aln rfl ?_
      refine w_gi ga.g125 rfl (by decide) rfl ((congrFun (eo _ n125) 5).trans h5) ?_
      refine w_cmne (fun c2 => ?_) (fun c2 => ?_)
      · skip
        refine w_aln rfl ?_
        refine w_gr ga.g125 rfl (by decide) rfl ((congrArg (fun z => z.2 (w 125) 17) e2).trans gb.r125_17) ?_
        refine w_iln rfl ?_
        refine w_iald (v := (BE i.toNat)) ga.g145 rfl (by show (0 : Int) ≤ i; omega) (by show i < ((12 : Nat) : Int); omega) (((congrFun (eo _ n145) _).trans (h17 _ (by omega)))) ?_
        refine w_iast ga.g126 rfl (by decide) (by show (0 : Int) ≤ i; omega) (by show i < ((12 : Nat) : Int); omega) ?_
        refine w_ii rfl ⟨by show (-2147483648 : Int) ≤ i + 1; omega, by show i + 1 < (2147483648 : Int); omega⟩ ?_
        show wz _ _ _ _ [some (.inr (.inr (some (w 125)))), some (.inr (.inr (some (w p)))), some (.inl (i + 1))] _ _ _ _ _
        refine w_goto ?_
        refine ih (i + 1) _ _ _ (by omega) (by omega) e2 (fun a na => (wz_c na).trans (eo a na)) (fun j hj => ?_) h
        by_cases ej2 : (j : Int) = i
        · rw [show j = i.toNat by omega]
          refine hn_s.trans ?_
          unfold cs_pc; exact (if_neg (by omega)).symm
        · exact (hn_n (Or.inr (by omega))).trans (ej j (by omega))
      · skip
        refine w_bp ?_
        refine w_goto ?_
        refine w_iast ga.g126 rfl (by decide) (by show (0 : Int) ≤ i; omega) (by show i < ((12 : Nat) : Int); omega) ?_
        refine w_ii rfl ⟨by show (-2147483648 : Int) ≤ i + 1; omega, by show i + 1 < (2147483648 : Int); omega⟩ ?_
        show wz _ _ _ _ [some (.inr (.inr (some (w 125)))), some (.inr (.inr (some (w p)))), some (.inl (i + 1))] _ _ _ _ _
        refine w_goto ?_
        refine ih (i + 1) _ _ _ (by omega) (by omega) e2 (fun a na => (wz_c na).trans (eo a na)) (fun j hj => ?_) h
        by_cases ej2 : (j : Int) = i
        · rw [show j = i.toNat by omega]
          refine hn_s.trans ?_
          unfold cs_pc; exact (if_pos (by omega)).symm
        · exact (hn_n (Or.inr (by omega))).trans (ej j (by omega))
theorem r_X0_searchPlan {G : mj_G} {M0 : mj_M} {x s p q : Nat} {w : Nat → Nat} {Q : mj_P} {d : Nat} (ga : cp_GA G w) (gb : cp_BA M0 w) (hA : lq_A G w) (hB : lq_B M0 w x) (hN : lq_N M0 w p q) (hG5 : rv_G6 (M0.1 s) 0 w p M0) (hr : rv_r4 (M0.1 s) 0) (t1 : 1 ≤ M0.1 s 0) (t3 : M0.1 s 0 ≤ 3) (hn : cs_A (M0.1 s) = none → ∀ M2, M2.2 = M0.2 → (∀ a, (∀ i, 125 ≤ i → i ≤ 145 → a ≠ w i) → M2.1 a = M0.1 a) → M2.1 (w 125) 3 = M0.1 (w 125) 3 → M2.1 (w 125) 4 = M0.1 (w 125) 4 → M2.1 (w 125) 1 = M0.1 (w 125) 1 → M2.1 (w 125) 2 = M0.1 (w 125) 2 → M2.1 (w 126) = M0.1 (w 126) → Q (some (.inl (-1))) G M2) (hs : ∀ c P, cs_A (M0.1 s) = some (c, P) → 0 ≤ c → ∀ M2, M2.2 = M0.2 → (∀ a, (∀ i, 125 ≤ i → i ≤ 145 → a ≠ w i) → M2.1 a = M0.1 a) → M2.1 (w 125) 3 = M0.1 (w 125) 3 → M2.1 (w 125) 4 = M0.1 (w 125) 4 → M2.1 (w 125) 1 = 1 → M2.1 (w 125) 2 = M0.1 (w p) 9 → (∀ j, j < 12 → M2.1 (w 126) j = P j) → Q (some (.inl c)) G M2) : mj_R mj_tab (d + 13) 12 [.inr (.inr (some (w 125))), .inr (.inr (some (w p)))] G M0 Q := by
  obtain ⟨gpl, gna, gta, gba, gwa, gtr, gbr, itr, ibr, p0, p1, p2, p3, rt, rb⟩ := lq_K hA hB hN.pin.1
  have hG := hG5.1
  have et := cs_te hr
  have b1 := cs_r1 hr
  have npl : ∀ i, 125 ≤ i → i ≤ 145 → w p ≠ w i := fun i h1 h2 => by
    have hp : p < 361 := by rcases hN.2.2 with z | z <;> omega
    exact ga.ne hp (by omega) (by rcases hN.2.2 with z | z <;> omega)
  refine ⟨Nat.le_of_ble_eq_true rfl, ?_⟩
  show wz (d + 12) mt_X0_searchPlan.2.2.2.2.1 Q mt_X0_searchPlan.2.2.2.2.1 [some (.inr (.inr (some (w 125)))), some (.inr (.inr (some (w p)))), none] [] G M0 _ _
  refine w_aln rfl ?_
  refine w_aln rfl ?_
  refine w_cv (st := []) rfl ga.g125 rfl (Nat.le_of_ble_eq_true rfl) (fun kk h => h) (r_X0_prepare (d := d + 10) ga gb hA hB hN hG5 hr t1 t3 (fun BR LA RB GN RS M1 hC1 hI => ?_))
  obtain ⟨hI1, hI2, hI3, hI4⟩ := hI
  have z1 := sp_Z.pr ga hC1
  have hK1 : cq_K (M0.1 s) M1 w := ⟨hC1.2.2.2.1, hC1.2.2.2.2.1, fun k hk => (hC1.2.2.2.2.2.1 k (by omega)).trans (hI1 k (by omega)).1, fun k j hk hj => (hC1.2.2.2.2.2.2.2.1 k j (by omega) hj).trans (hI2 k j (by omega) (by omega) hj)⟩
  have gb1 : cp_BA M1 w := fun e he => hC1.r (gb e he)
  refine w_aln rfl ?_
  refine w_cv (st := []) rfl ga.g125 rfl (Nat.le_of_ble_eq_true rfl) (fun kk h => h) (r_X0_listTails (d := d + 9) ga gb1 hK1 hr t1 t3 (fun TG TC TT M2 hC2 hT => ?_))
  have gb2 : cp_BA M2 w := fun e he => hC2.r (gb1 e he)
  have z2 := z1.tr (sp_Z.li ga hC2)
  refine w_aln rfl ?_
  refine w_ldc ?_
  refine w_pi ga.g125 rfl (by decide) rfl (fun q => by cases q) ?_
  obtain ⟨M3, hM3⟩ : ∃ M3, M3 = mj_p0 M2 (w 125) 18 1000000 := ⟨_, rfl⟩
  rw [← hM3]
  have z3 : sp_Z w M0 M3 := by rw [hM3]; exact z2.tr (sp_Z.b18 ga)
  have gb3 : cp_BA M3 w := fun e he => by rw [hM3]; exact gb2 e he
  have s3 : ∀ k, k ≠ 18 → M3.1 (w 125) k = M2.1 (w 125) k := fun k hk => by rw [hM3]; exact hn_n (Or.inr hk)
  have c3 : ∀ i k, i < 361 → i ≠ 125 → M3.1 (w i) k = M2.1 (w i) k := fun i k h1 h2 => by rw [hM3]; exact hn_n (Or.inl (ga.ne h1 (by decide) h2))
  have c2 : ∀ i k, i < 361 → i ≠ 125 → (i < 139 ∨ 143 < i) → M2.1 (w i) k = M1.1 (w i) k := fun i k h1 h2 h3 => congrFun (hC2.2.1 _ (ga.tn h1 ⟨h2, h3⟩)) k
  have hK3 : cc_K (M0.1 s) M3 w := by
    refine ⟨(s3 5 (by decide)).trans ((hC2.2.2.1 5 (by decide)).trans hK1.1), (s3 6 (by decide)).trans ((hC2.2.2.1 6 (by decide)).trans hK1.2.1), (s3 15 (by decide)).trans hC2.2.2.2.1, fun k hk => ?_, fun k j hk hj => ?_, fun k j hk hj => ?_, fun j hj => ?_, fun k i hk hi => ?_, fun i hi => ?_, fun i hi => ?_⟩
    · exact (c3 _ _ (by decide) (by decide)).trans ((c2 _ _ (by decide) (by decide) (by decide)).trans (hK1.2.2.1 k hk))
    · exact (c3 _ _ (by omega) (by omega)).trans ((c2 _ _ (by omega) (by omega) (by omega)).trans (hK1.2.2.2 k j hk hj))
    · exact (c3 _ _ (by omega) (by omega)).trans ((c2 _ _ (by omega) (by omega) (by omega)).trans ((hC1.2.2.2.2.2.2.2.2.1 k j (by omega) (by omega)).trans (hI3 k j (by omega) (by omega) hj)))
    · exact (c3 _ _ (by decide) (by decide)).trans ((c2 _ _ (by decide) (by decide) (by decide)).trans ((hC1.2.2.2.2.2.2.2.2.2 j (by omega)).trans (hI4 j (by omega) hj)))
    · have pw := (cw_pow (H := M0.1 s) (by omega) (by omega)).2.2.2
      exact (c3 _ _ (by omega) (by omega)).trans ((hC2.2.2.2.2.1 k i (by omega) (by omega)).trans ((hT i hi).1 k (by omega)))
    · have pw := (cw_pow (H := M0.1 s) (by omega) (by omega)).2.2.2
      exact (c3 _ _ (by decide) (by decide)).trans ((hC2.2.2.2.2.2.1 i (by omega)).trans (hT i hi).2.1)
    · have pw := (cw_pow (H := M0.1 s) (by omega) (by omega)).2.2.2
      exact (c3 _ _ (by decide) (by decide)).trans ((hC2.2.2.2.2.2.2 i (by omega)).trans (hT i hi).2.2)
  have hC3 := cc_C.re (w := w) (M := M3)
  have hLA : ∀ k, k < cs_t (M0.1 s) → M3.1 (w 128) k = cs_L0 (M0.1 s) k := fun k hk => (c3 _ _ (by decide) (by decide)).trans ((c2 _ _ (by decide) (by decide) (by decide)).trans ((hC1.2.2.2.2.2.2.1 k (by omega)).trans (hI1 k (by omega)).2))
  have hbp : M3.1 (w 125) 18 = 1000000 := by rw [hM3]; exact hn_s
  rw [hbp] at hC3
  refine w_aln rfl ?_
  refine w_ic ?_
  refine w_aln rfl ?_
  refine w_gi ga.g125 rfl (by decide) rfl hK3.1 ?_
  refine w_ic ?_
  refine w_cv (st := []) rfl ga.g125 rfl (Nat.le_of_ble_eq_true rfl) (fun kk h => h) (r_X0_tryMonth (d := d) ga gb3 hK3 hr t1 t3 (P0 := cs_pl (M0.1 s) (M3.1 (w 145))) 8 0 (M0.1 s 0) 0 (fun _ => 0) (M3.1 (w 128)) (M3.1 (w 144)) (M3.1 (w 145)) none 1000000 M3 _ (by decide) (by decide) (by omega) (Int.le_refl _) (by decide) (by decide) (fun j hj => absurd hj (by omega)) (fun k hk => ?_) hC3 ⟨rfl, fun _ _ => rfl⟩ (fun b2 bp2 PA2 BE2 M4 hC4 hp4 hN4 e4 => ?_))
  · rw [hLA k (by omega)]
    have q := cs_rt hr (j := 8 + 9 * k) (by omega) (by omega)
    show _ ≤ M0.1 s (8 + 9 * k) ∧ M0.1 s (8 + 9 * k) ≤ _
    omega
  have eA : b2 = cs_A (M0.1 s) := by
    rw [e4]
    have e5 : cs_S (M0.1 s) (8 + 4) (0 : Int).toNat (M0.1 s 0).toNat (M3.1 (w 128)) = cs_A (M0.1 s) := cs_S_cg _ _ _ _ _ hLA
    rw [e5]
    cases cs_A (M0.1 s) with
    | none => rfl
    | some x =>
      show some (0 + x.1, _) = some x
      rw [Int.zero_add]; rfl
  rw [eA] at hN4
  have z4 := z3.tr (sp_Z.se ga hC4)
  have gb4 : cp_BA M4 w := fun e he => hC4.r (gb3 e he)
  have bb4 := hN4.b (by decide)
  refine w_aln rfl ?_
  refine w_gi ga.g125 rfl (by decide) rfl hC4.2.2.2.1 ?_
  refine w_ldc ?_
  refine w_cmne (fun c1 => ?_) (fun c1 => ?_)
  · refine w_ic ?_
    refine w_isn ?_
    cases hA9 : cs_A (M0.1 s) with
    | none =>
      rw [hA9] at hN4
      exact absurd hN4.1 c1
    | some y =>
      rw [hA9] at hN4
      obtain ⟨q1, q2, q3, q4⟩ := hN4
      refine r_sp2 (d := d + 12) (M0 := M0) (s := s) (bp := bp2) ga gb4 gpl ((hC4.2.2.1 5 (by decide)).trans hK3.1) (fun k hk => hC4.2.2.2.2.2.2 k hk) (congrFun (z4.2.1 _ (fun i h1 h2 => npl i h1 h2)) 9) hC4.2.2.2.1 12 0 M4 _ _ (by decide) (by decide) rfl (fun _ _ => rfl) (fun j hj => absurd hj (by omega)) (fun M5 e2 eo ej => ?_)
      have n1 : w 125 ≠ w 126 := ga.ne (by decide) (by decide) (by decide)
      rw [← q1]
      refine hs y.1 y.2 hA9 (by omega) _ (e2.trans z4.1) (fun a na => ?_) ?_ ?_ ?_ hn_s (fun j hj => ?_)
      · exact (wz_c (na _ (by decide) (by decide))).trans ((wz_c (na _ (by decide) (by decide))).trans ((eo a (na _ (by decide) (by decide))).trans (z4.2.1 a na)))
      · exact (hn_n (Or.inr (by decide))).trans ((hn_n (Or.inr (by decide))).trans ((congrFun (eo _ n1) 3).trans (z4.2.2.1 3 (by decide) (by decide))))
      · exact (hn_n (Or.inr (by decide))).trans ((hn_n (Or.inr (by decide))).trans ((congrFun (eo _ n1) 4).trans (z4.2.2.1 4 (by decide) (by decide))))
      · exact (hn_n (Or.inr (by decide))).trans hn_s
      · exact (hn_n (Or.inl n1.symm)).trans ((hn_n (Or.inl n1.symm)).trans ((ej j hj).trans (q4 j hj)))
  · refine w_ic ?_
    cases hA9 : cs_A (M0.1 s) with
    | none =>
      exact w_iret (fun q => by cases q) (hn hA9 M4 z4.1 z4.2.1 (z4.2.2.1 3 (by decide) (by decide)) (z4.2.2.1 4 (by decide) (by decide)) (z4.2.2.1 1 (by decide) (by decide)) (z4.2.2.1 2 (by decide) (by decide)) z4.2.2.2)
    | some y =>
      rw [hA9] at hN4
      obtain ⟨q1, q2, q3, q4⟩ := hN4
      omega
theorem r_X0_solve {G : mj_G} {M0 : mj_M} {x s p q : Nat} {w : Nat → Nat} {Q : mj_P} {d : Nat} (ga : cp_GA G w) (gb : cp_BA M0 w) (hA : lq_A G w) (hB : lq_B M0 w x) (hN : lq_N M0 w p q) (hG5 : rv_G6 (M0.1 s) 0 w p M0) (hr : rv_r4 (M0.1 s) 0) (t1 : 1 ≤ M0.1 s 0) (t3 : M0.1 s 0 ≤ 3) (gs : G s = (51100, 537)) (h0 : M0.1 (w p) 9 = M0.1 (w 125) 3 → Q (some (.inl (M0.1 (w 125) 4))) G M0) (hn : M0.1 (w p) 9 ≠ M0.1 (w 125) 3 → cs_A (M0.1 s) = none → ∀ M2, M2.2 = M0.2 → (∀ a, (∀ i, 125 ≤ i → i ≤ 145 → a ≠ w i) → M2.1 a = M0.1 a) → M2.1 (w 125) 3 = M0.1 (w p) 9 → M2.1 (w 125) 4 = -1 → M2.1 (w 125) 1 = M0.1 (w 125) 1 → M2.1 (w 125) 2 = M0.1 (w 125) 2 → M2.1 (w 126) = M0.1 (w 126) → Q (some (.inl (-1))) G M2) (hs : M0.1 (w p) 9 ≠ M0.1 (w 125) 3 → ∀ c P, cs_A (M0.1 s) = some (c, P) → 0 ≤ c → ∀ M2, M2.2 = M0.2 → (∀ a, (∀ i, 125 ≤ i → i ≤ 145 → a ≠ w i) → M2.1 a = M0.1 a) → M2.1 (w 125) 3 = M0.1 (w p) 9 → M2.1 (w 125) 4 = c → M2.1 (w 125) 1 = 1 → M2.1 (w 125) 2 = M0.1 (w p) 9 → (∀ j, j < 12 → M2.1 (w 126) j = P j) → Q (some (.inl c)) G M2) : mj_R mj_tab (d + 14) 13 [.inr (.inr (some (w 125))), .inr (.inr (some (w p)))] G M0 Q := by
  obtain ⟨gpl, gna, gta, gba, gwa, gtr, gbr, itr, ibr, p0, p1, p2, p3, rt, rb⟩ := lq_K hA hB hN.pin.1
  have hG := hG5.1
  have et := cs_te hr
  have b1 := cs_r1 hr
  have n125 : ∀ a tg n, G a = (tg, n) → tg ≠ 1001 → a ≠ w 125 := fun a tg n g e => hn_ne g ga.g125 e
  have npl := n125 _ _ _ gpl (by decide)
  have nsl := n125 _ _ _ gs (by decide)
  refine ⟨Nat.le_of_ble_eq_true rfl, ?_⟩
  show wz (d + 13) mt_X0_solve.2.2.2.2.1 Q mt_X0_solve.2.2.2.2.1 [some (.inr (.inr (some (w 125)))), some (.inr (.inr (some (w p))))] [] G M0 _ _
  refine w_aln rfl ?_
  refine w_gi gpl rfl (by decide) rfl rfl ?_
  refine w_aln rfl ?_
  refine w_gi ga.g125 rfl (by decide) rfl rfl ?_
  refine w_cmeq (fun c1 => ?_) (fun c1 => ?_)
  · refine w_aln rfl ?_
    refine w_gi ga.g125 rfl (by decide) rfl rfl ?_
    exact w_iret (fun q => by cases q) (h0 c1)
  · refine w_aln rfl ?_
    refine w_aln rfl ?_
    refine w_gi gpl rfl (by decide) rfl rfl ?_
    refine w_pi ga.g125 rfl (by decide) rfl (fun q => by cases q) ?_
    obtain ⟨M1, hM1⟩ : ∃ M1, M1 = mj_p0 M0 (w 125) 3 (M0.1 (w p) 9) := ⟨_, rfl⟩
    rw [← hM1]
    have e2 : M1.2 = M0.2 := by rw [hM1]; rfl
    have eo : ∀ a, a ≠ w 125 → M1.1 a = M0.1 a := fun a na => by rw [hM1]; exact wz_c na
    have es : M1.1 s = M0.1 s := eo s nsl
    have e3 : M1.1 (w 125) 3 = M0.1 (w p) 9 := by rw [hM1]; exact hn_s
    have ek : ∀ k, k ≠ 3 → M1.1 (w 125) k = M0.1 (w 125) k := fun k hk => by rw [hM1]; exact hn_n (Or.inr hk)
    have ep : M1.1 (w p) = M0.1 (w p) := eo _ npl
    have gb1 : cp_BA M1 w := fun e he => by rw [hM1]; exact gb e he
    have hB1 : lq_B M1 w x := by unfold lq_B; rw [e2]; exact hB
    have hN1 : lq_N M1 w p q := by unfold lq_N; rw [e2]; exact hN
    have hG1 : rv_G6 (M1.1 s) 0 w p M1 := by
      rw [es]
      obtain ⟨⟨g1, g2, g3, g4, g5, g6⟩, g7, g8⟩ := hG5
      have ew : ∀ i, i < 361 → G (w i) ≠ (1001, 0) → M1.1 (w i) = M0.1 (w i) := fun i hi hg => eo _ (fun z => hg (by rw [z]; exact ga.g125))
      refine ⟨⟨by rw [ep]; exact g1, by rw [ep]; exact g2, by rw [ep]; exact g3, by rw [ep]; exact g4, fun t v ht hv => ?_, fun v hv => ?_⟩, fun t v ht hv => ?_, by rw [ep]; exact g8⟩
      · rw [eo _ (n125 _ _ _ (gtr t ht) (by decide))]; exact g5 t v ht hv
      · rw [eo _ (n125 _ _ _ gwa (by decide))]; exact g6 v hv
      · rw [eo _ (n125 _ _ _ (gbr t ht) (by decide))]; exact g7 t v ht hv
    refine w_aln rfl ?_
    refine w_aln rfl ?_
    refine w_aln rfl ?_
    refine w_cv (st := [.inr (.inr (some (w 125)))]) rfl ga.g125 rfl (Nat.le_of_ble_eq_true rfl) (fun kk h => h) (r_X0_searchPlan (d := d) ga gb1 hA hB1 hN1 hG1 (by rw [es]; exact hr) (by rw [es]; exact t1) (by rw [es]; exact t3) (fun hA9 M2 f1 f2 f3 f4 f5 f6 f7 => ?_) (fun c P hA9 c0 M2 f1 f2 f3 f4 f5 f6 f7 => ?_))
    · rw [es] at hA9
      refine w_pi ga.g125 rfl (by decide) rfl (fun q => by cases q) ?_
      refine w_aln rfl ?_
      refine w_gi ga.g125 rfl (by decide) rfl hn_s ?_
      refine w_iret (fun q => by cases q) (hn c1 hA9 _ (f1.trans e2) (fun a na => ?_) ((hn_n (Or.inr (by decide))).trans (f3.trans e3)) hn_s ((hn_n (Or.inr (by decide))).trans (f5.trans (ek 1 (by decide)))) ((hn_n (Or.inr (by decide))).trans (f6.trans (ek 2 (by decide)))) ?_)
      · exact (wz_c (na _ (by decide) (by decide))).trans ((f2 a na).trans (eo a (na _ (by decide) (by decide))))
      · exact (wz_c (ga.ne (by decide) (by decide) (by decide))).trans (f7.trans (eo _ (ga.ne (by decide) (by decide) (by decide))))
    · rw [es] at hA9
      refine w_pi ga.g125 rfl (by decide) rfl (fun q => by cases q) ?_
      refine w_aln rfl ?_
      refine w_gi ga.g125 rfl (by decide) rfl hn_s ?_
      refine w_iret (fun q => by cases q) (hs c1 c P hA9 c0 _ (f1.trans e2) (fun a na => ?_) ((hn_n (Or.inr (by decide))).trans (f3.trans e3)) hn_s ((hn_n (Or.inr (by decide))).trans f5) ((hn_n (Or.inr (by decide))).trans (f6.trans (congrFun ep 9))) (fun j hj => ?_))
      · exact (wz_c (na _ (by decide) (by decide))).trans ((f2 a na).trans (eo a (na _ (by decide) (by decide))))
      · exact (hn_n (Or.inl (ga.ne (by decide) (by decide) (by decide)))).trans (f7 j hj)
