/-! ===== the law's loop ===== -/
def lv_L (b x m o : Nat) (i : Int) (v5 v6 : Option mj_V) : mj_L := [some (.inr (.inr (some b))), some (.inr (.inr (some x))), some (.inr (.inr (some m))), some (.inr (.inr (some o))), some (.inl i), v5, v6]
theorem lp_ok_told : an_ok mj_tab 40 250 = true := by decide +kernel
section LP
variable {Z : mj_S} {b n : Nat} {xs : Nat → Int} {G : mj_G} {M : mj_M} {cb sb x m o tp s kp bc bt kc kr : Nat} {w : Nat → Nat} {i : Int} {v5 v6 : Option mj_V}
set_option maxRecDepth 100000 in
theorem lk_told (hz : lv_Z Z b n xs) (hi : 0 ≤ i ∧ i + 6 ≤ n ∧ n ≤ 3072) (hxs : ∀ k, mj_in (xs k)) (ho : G o = (90103, 1)) (hI : lp_I G M x m tp s kp bc bt kc kr w) (h1 : 4 ≤ cb) (h2 : 64 ≤ sb) (kk : ∀ M2 v5 v6, lp_I G M2 x m tp s kp bc bt kc kr w → Z (mj_law.drop 777) (lv_L b x m o i v5 v6) [] G M2 (cb - 4) (sb - 64)) : Z (mj_law.drop 113) (lv_L b x m o i v5 v6) [] G M cb sb := by
  refine lv_al hz (k := 1) (r := some x) rfl ?_
  refine lv_ar hz rfl rfl ⟨by decide, by decide⟩ hi ?_
  refine lv_ar hz rfl rfl ⟨by decide, by decide⟩ hi ?_
  refine lv_al hz (k := 3) (r := some o) rfl ?_
  refine hz.2.2.2 _ _ _ _ _ _ _ _ _ _ _ _ _ _ hI.1.1.1.1 hI.gx ho (Nat.zero_le 8) h1 h2 (fun b0 c0 tl z M1 hpt hrt e1 e2 e3 => ?_)
  have hI1 := hI.mv e1 e2 e3
  have ht := lr_td hI hpt hrt
  have es : M1.1 s = M.1 s := by rw [e1]
  refine lv_is hz (L := lv_L b x m o i v5 v6) ?_
  refine lv_al hz (L := lv_L b x m o i (some (.inl z)) v6) (k := 2) (r := some m) rfl ?_
  refine lv_ar hz rfl rfl ⟨by decide, by decide⟩ hi ?_
  refine lv_ar hz rfl rfl ⟨by decide, by decide⟩ hi ?_
  refine lv_cl (st := []) hz (y := 250) rfl hI1.gm rfl (Nat.zero_le 8) (fun kk h => h) (lp_and lp_ok_told (lc_X12_told (d := 9) (Q := fun r G' M' => ∃ z2, r = some (.inl z2) ∧ G' = G ∧ lp_I G M' x m tp s kp bc bt kc kr w) hI1.1.1.1 (hxs _) (hxs _) (fun z2 M2 V S f => ⟨z2, rfl, rfl, hI1.go V S f (by decide +kernel) (by decide +kernel) (by decide +kernel)⟩)) (lr_X12_told hI1 (hxs _) (hxs _)) (fun r G' M2 g1 g2 => ?_))
  obtain ⟨z2, rfl, rfl, hI2⟩ := g1
  rw [es] at g2
  refine lv_is hz (L := lv_L b x m o i (some (.inl z)) v6) ?_
  refine lv_al hz (L := lv_L b x m o i (some (.inl z)) (some (.inl z2))) (k := 2) (r := some m) rfl ?_
  refine lv_cl (st := []) hz (y := 265) rfl hI2.gm rfl (Nat.zero_le 8) (fun kk h => h) (mj_R_mo mj_tab 40 _ _ _ _ _ _ (fun r G' M' q => ?_) (lr_X12_thrown hI2.gm))
  obtain ⟨rfl, rfl, rfl⟩ := q
  refine lv_il hz (z := z) rfl ?_
  refine hz.1 _ _ _ _ _ _ _ (And.intro (fun _ => ?_) (fun c => ?_))
  · refine lv_il hz (L := lv_L b x m o i (some (.inl z)) (some (.inl z2))) (z := z) rfl ?_
    refine hz.1 _ _ _ _ _ _ _ (And.intro (fun c => ?_) (fun c => ?_))
    · exact lv_gt hz (kk M' (some (.inl z)) (some (.inl z2)) hI2)
    · have c0 : z = 0 := Decidable.not_not.mp c
      refine lv_al hz (L := lv_L b x m o i (some (.inl z)) (some (.inl z2))) (k := 3) (r := some o) rfl ?_
      refine lv_ic hz ?_
      refine hz.1 _ _ _ _ _ _ _ ⟨90103, 1, ho, rfl, by decide, by decide, ?_⟩
      refine lv_il hz (L := lv_L b x m o i (some (.inl z)) (some (.inl z2))) (z := z2) rfl ?_
      refine hz.1 _ _ _ _ _ _ _ ?_
      refine hz.1 _ _ _ _ _ _ _ (fun w9 _ ew => ?_)
      have heq : M'.2.1 o 0 = (Int32.ofInt z2).toInt64 := by
        rcases ht with ⟨q, -⟩ | ⟨-, q1, q2⟩
        · exfalso; omega
        · rcases g2.2 with ⟨p1, -⟩ | ⟨-, -, p3⟩
          · exact absurd q1 p1
          · rw [g2.1, q2, Sum.inl.inj (Option.some.inj p3)]
      refine hz.1 _ _ _ _ _ _ _ (And.intro (fun _ => ?_) (fun c9 => absurd heq ((rv_cmp ew).2 c9)))
      exact lv_gt hz (kk M' (some (.inl z)) (some (.inl z2)) hI2)
  · exfalso
    rcases ht with ⟨q, qn⟩ | ⟨q, q1, -⟩
    · rcases g2.2 with ⟨-, p2⟩ | ⟨p1, -⟩
      · exact c (show M'.1 m 0 = z by rw [p2, q])
      · exact qn p1
    · rcases g2.2 with ⟨p1, -⟩ | ⟨-, p2, -⟩
      · exact p1 q1
      · exact c (show M'.1 m 0 = z by rw [p2, q])
set_option maxRecDepth 100000 in
theorem lp_loop (hz : lv_Z Z b n xs) (hxs : ∀ k, mj_in (xs k)) (hn : n ≤ 3072) (ho : G o = (90103, 1)) : ∀ (j : Nat) (i : Int) (M : mj_M) (v5 v6 : Option mj_V) (cb sb : Nat), 0 ≤ i → i ≤ 3072 → (n : Int) ≤ i + 6 * j + 5 → 4 * j ≤ cb → 64 * j ≤ sb → lp_I G M x m tp s kp bc bt kc kr w → Z (mj_law.drop 13) (lv_L b x m o i v5 v6) [] G M cb sb := by
  have head : ∀ (i : Int) (M : mj_M) (v5 v6 : Option mj_V) (cb sb : Nat), 0 ≤ i → i ≤ 3072 → (i + 6 ≤ n → Z (mj_law.drop 19) (lv_L b x m o i v5 v6) [] G M cb sb) → Z (mj_law.drop 13) (lv_L b x m o i v5 v6) [] G M cb sb := by
    intro i M v5 v6 cb sb h0 h1 kk
    refine lv_il hz (z := i) rfl ?_
    refine lv_al hz (k := 0) (r := some b) rfl ?_
    refine hz.2.2.1 _ _ _ _ _ _ _ _ _ _ ?_
    refine lv_bp hz ?_
    refine lv_sb hz ⟨by omega, by omega⟩ ?_
    refine hz.1 _ _ _ _ _ _ _ (And.intro (fun _ => ?_) (fun c => ?_))
    · refine lv_ic (rest := mj_law.drop 780) hz ?_
      exact hz.1 _ _ _ _ _ _ _ ⟨rfl, fun _ => Or.inr rfl, rfl⟩
    · have c : ¬ ((n : Int) - 6 < i) := c
      exact kk (by omega)
  intro j
  induction j with
  | zero =>
    intro i M v5 v6 cb sb h0 h1 h2 _ _ _
    exact head i M v5 v6 cb sb h0 h1 (fun q => by exfalso; omega)
  | succ j ih =>
    intro i M v5 v6 cb sb h0 h1 h2 h3 h4 hI
    refine head i M v5 v6 cb sb h0 h1 (fun q => ?_)
    have hi : 0 ≤ i ∧ i + 6 ≤ n ∧ n ≤ 3072 := ⟨h0, q, hn⟩
    have hT : lv_T b n (lv_L b x m o i v5 v6) x m i := ⟨rfl, rfl, rfl, rfl, hi⟩
    have next : ∀ (M2 : mj_M) (v5 v6 : Option mj_V) (cb sb : Nat), lp_I G M2 x m tp s kp bc bt kc kr w → 4 * j ≤ cb → 64 * j ≤ sb → Z (mj_law.drop 777) (lv_L b x m o i v5 v6) [] G M2 cb sb := by
      intro M2 v5 v6 cb sb hI2 q1 q2
      refine hz.1 _ _ _ _ _ _ _ (Or.inl ⟨⟨by show (-2147483648 : Int) ≤ i + 6; omega, by show i + 6 < (2147483648 : Int); omega⟩, ?_⟩)
      exact lv_gt hz (ih (i + 6) M2 v5 v6 cb sb (by omega) (by omega) (by omega) q1 q2 hI2)
    refine lv_al hz (k := 0) (r := some b) rfl ?_
    refine lv_il hz (z := i) rfl ?_
    refine hz.2.1 _ _ _ _ _ _ _ _ _ _ _ h0 (by omega) ?_
    refine lv_bp hz ?_
    refine hz.1 _ _ _ _ _ _ _ (fun z _ _ => ?_)
    refine hz.1 _ _ _ _ _ _ _ (And.intro (fun _ => next M v5 v6 _ _ hI (by omega) (by omega)) ?_)
    exact And.intro (fun _ => lk_feed hz hT hxs hI (fun M2 hI2 => next M2 v5 v6 _ _ hI2 (by omega) (by omega))) (And.intro (fun _ => lk_end hz hT hxs hI (fun M2 hI2 => next M2 v5 v6 _ _ hI2 (by omega) (by omega))) (And.intro (fun _ => lk_plain hz hT hxs hI (fun M2 hI2 => next M2 v5 v6 _ _ hI2 (by omega) (by omega))) (And.intro (fun _ => lk_fault hz hT hxs hI (fun M2 hI2 => next M2 v5 v6 _ _ hI2 (by omega) (by omega))) (And.intro (fun _ => lk_told hz hi hxs ho hI (by omega) (by omega) (fun M2 v5 v6 hI2 => next M2 v5 v6 _ _ hI2 (by omega) (by omega))) (And.intro (fun _ => lk_bid hz hT hxs hI (fun M2 hI2 => next M2 v5 v6 _ _ hI2 (by omega) (by omega))) (And.intro (fun _ => lk_offer hz hT hxs hI (fun M2 hI2 => next M2 v5 v6 _ _ hI2 (by omega) (by omega))) (And.intro (fun _ => lk_undo hz hT hxs hI (fun M2 hI2 => next M2 v5 v6 _ _ hI2 (by omega) (by omega))) (And.intro (fun _ => lk_water hz hT hxs hI (fun M2 hI2 => next M2 v5 v6 _ _ hI2 (by omega) (by omega))) (And.intro (fun _ => lk_contracts hz hT hxs hI (fun M2 hI2 => next M2 v5 v6 _ _ hI2 (by omega) (by omega))) (And.intro (fun _ => lk_contract hz hT hxs hI (fun M2 hI2 => next M2 v5 v6 _ _ hI2 (by omega) (by omega))) (And.intro (fun _ => lk_begin hz hT hxs hI (fun M2 hI2 => next M2 v5 v6 _ _ hI2 (by omega) (by omega))) (And.intro (fun _ => lk_on hz hT hxs hI (fun M2 hI2 => next M2 v5 v6 _ _ hI2 (by omega) (by omega))) (And.intro (fun _ => lk_year hz hT hxs hI (fun M2 hI2 => next M2 v5 v6 _ _ hI2 (by omega) (by omega))) (And.intro (fun _ => lk_town hz hT hxs hI (fun M2 hI2 => next M2 v5 v6 _ _ hI2 (by omega) (by omega))) (And.intro (fun _ => lk_let hz hT hxs hI (fun M2 hI2 => next M2 v5 v6 _ _ hI2 (by omega) (by omega))) (And.intro (fun _ => lk_droughts hz hT hxs hI (fun M2 hI2 => next M2 v5 v6 _ _ hI2 (by omega) (by omega))) (And.intro (fun _ => lk_cheapest hz hT hxs hI (fun M2 hI2 => next M2 v5 v6 _ _ hI2 (by omega) (by omega))) (And.intro (fun _ => lk_plan hz hT hxs hI (fun M2 hI2 => next M2 v5 v6 _ _ hI2 (by omega) (by omega))) (And.intro (fun _ => lk_take hz hT hxs hI (fun M2 hI2 => next M2 v5 v6 _ _ hI2 (by omega) (by omega))) (And.intro (fun _ => lk_rounds hz hT hxs hI (fun M2 hI2 => next M2 v5 v6 _ _ hI2 (by omega) (by omega))) (And.intro (fun _ => lk_has hz hT hxs hI (fun M2 hI2 => next M2 v5 v6 _ _ hI2 (by omega) (by omega))) (And.intro (fun _ => lk_price hz hT hxs hI (fun M2 hI2 => next M2 v5 v6 _ _ hI2 (by omega) (by omega))) (And.intro (fun _ => lk_leaks hz hT hxs hI (fun M2 hI2 => next M2 v5 v6 _ _ hI2 (by omega) (by omega))) (And.intro (fun _ => lk_leak hz hT hxs hI (fun M2 hI2 => next M2 v5 v6 _ _ hI2 (by omega) (by omega))) (And.intro (fun _ => lk_wettest hz hT hxs hI (fun M2 hI2 => next M2 v5 v6 _ _ hI2 (by omega) (by omega))) (And.intro (fun _ => lk_enough hz hT hxs hI (fun M2 hI2 => next M2 v5 v6 _ _ hI2 (by omega) (by omega))) (And.intro (fun _ => lk_shoresOf hz hT hxs hI (fun M2 hI2 => next M2 v5 v6 _ _ hI2 (by omega) (by omega))) (And.intro (fun _ => lk_thirsty hz hT hxs hI (fun M2 hI2 => next M2 v5 v6 _ _ hI2 (by omega) (by omega))) (And.intro (fun _ => lk_bidsOf hz hT hxs hI (fun M2 hI2 => next M2 v5 v6 _ _ hI2 (by omega) (by omega))) (And.intro (fun _ => lk_greatest hz hT hxs hI (fun M2 hI2 => next M2 v5 v6 _ _ hI2 (by omega) (by omega))) (And.intro (fun _ => lk_write hz hT hxs hI (fun M2 hI2 => next M2 v5 v6 _ _ hI2 (by omega) (by omega))) (And.intro (fun _ => lk_byteAt hz hT hxs hI (fun M2 hI2 => next M2 v5 v6 _ _ hI2 (by omega) (by omega))) (And.intro (fun _ => lk_worth hz hT hxs hI (fun M2 hI2 => next M2 v5 v6 _ _ hI2 (by omega) (by omega))) (And.intro (fun _ => lk_drawn hz hT hxs hI (fun M2 hI2 => next M2 v5 v6 _ _ hI2 (by omega) (by omega))) (And.intro (fun _ => lk_shores hz hT hxs hI (fun M2 hI2 => next M2 v5 v6 _ _ hI2 (by omega) (by omega))) (And.intro (fun _ => lk_must hz hT hxs hI (fun M2 hI2 => next M2 v5 v6 _ _ hI2 (by omega) (by omega))) (And.intro (fun _ => lk_sentence hz hT hxs hI (fun M2 hI2 => next M2 v5 v6 _ _ hI2 (by omega) (by omega))) (And.intro (fun _ => lk_said hz hT hxs hI (fun M2 hI2 => next M2 v5 v6 _ _ hI2 (by omega) (by omega))) (And.intro (fun _ => lk_image hz hT hxs hI (fun M2 hI2 => next M2 v5 v6 _ _ hI2 (by omega) (by omega))) (And.intro (fun _ => lk_restore hz hT hxs hI (fun M2 hI2 => next M2 v5 v6 _ _ hI2 (by omega) (by omega))) (And.intro (fun _ => lk_count hz hT hxs hI (fun M2 hI2 => next M2 v5 v6 _ _ hI2 (by omega) (by omega))) (trivial))))))))))))))))))))))))))))))))))))))))))
end LP
