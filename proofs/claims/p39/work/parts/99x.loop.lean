/-! ===== the law's loop ===== -/
def lv_L (b x m o : Nat) (i : Int) (v5 v6 : Option mj_V) : mj_L := [some (.inr (.inr (some b))), some (.inr (.inr (some x))), some (.inr (.inr (some m))), some (.inr (.inr (some o))), some (.inl i), v5, v6]
section LP
variable {Z : mj_S} {b n : Nat} {xs : Nat → Int} {G : mj_G} {M : mj_M} {cb sb x m o tp s kp bc bt kc kr : Nat} {w : Nat → Nat} {i : Int} {v5 v6 : Option mj_V}
set_option maxRecDepth 100000 in
theorem lk_told (hz : lv_Z Z b n xs) (hi : 0 ≤ i ∧ i + 6 ≤ n ∧ n ≤ 3072) (hxs : ∀ k, mj_in (xs k)) (ho : G o = (90103, 1)) (hI : lp_N G M x m tp s kp bc bt kc kr w i) (h1 : 4 ≤ cb) (h2 : 64 ≤ sb) (kk : ∀ M2 v5 v6, lp_N G M2 x m tp s kp bc bt kc kr w (i + 6) → Z (mj_law.drop 760) (lv_L b x m o i v5 v6) [] G M2 (cb - 4) (sb - 64)) : Z (mj_law.drop 113) (lv_L b x m o i v5 v6) [] G M cb sb := by
  refine lv_al hz (k := 1) (r := some x) rfl ?_
  refine lv_ar hz rfl rfl ⟨by decide, by decide⟩ hi ?_
  refine lv_ar hz rfl rfl ⟨by decide, by decide⟩ hi ?_
  refine lv_al hz (k := 3) (r := some o) rfl ?_
  refine hz.2.2.2 _ _ _ _ _ _ _ _ _ _ _ _ _ _ hI.1.1.1.1.1.V.1 hI.1.1.1.1.1.gx ho (Nat.zero_le 8) h1 h2 (fun z M1 e1 e2 e3 => ?_)
  have hI1 := hI.mv e1 e2 e3
  refine lv_is hz (L := lv_L b x m o i v5 v6) ?_
  refine lv_al hz (L := lv_L b x m o i (some (.inl z)) v6) (k := 2) (r := some m) rfl ?_
  refine lv_ar hz rfl rfl ⟨by decide, by decide⟩ hi ?_
  refine lv_ar hz rfl rfl ⟨by decide, by decide⟩ hi ?_
  refine lv_cl (st := []) hz (y := 250) rfl hI1.1.1.1.1.1.gm rfl (Nat.zero_le 8) (fun kk h => h) (lv_C.an (by decide +kernel) (lv_C.an (by decide +kernel) (lv_C.an (by decide +kernel) (lv_C.an (by decide +kernel) (lv_C.lnn (P := fun _ M2 => lp_I G M2 x m tp s kp bc bt kc kr w) (P' := fun _ M2 => nz G M2 s m kp kc w) (by decide +kernel) (fun Q hQ => lc_X12_told (d := 9) hI1.1.1.1.1.1.V (hxs _) (hxs _) (fun z M' V S f => hQ z M' ⟨hI1.1.1.1.1.1.go V S f (by decide +kernel) (by decide +kernel) (by decide +kernel), fun l => hI1.1.1.1.1.1.nz hI1.1.1.1.1.2 f (by decide +kernel) l⟩))) (P' := fun _ M2 => lq_V G M2 x m s kp kc w (i + 6)) (fun Q hQ => lc_X12_told (d := 9) hI1.1.1.1.1.1.V (hxs _) (hxs _) (fun z M' V S f => hQ z M' (hI1.1.1.1.1.1.Vr ⟨hI1.1.1.1.2, hI1.1.1.1.1.1.b0⟩ (by omega) f (by decide +kernel))))) (P' := fun _ M2 => lq_D G M2 s kp kc w) (fun Q hQ => lc_X12_told (d := 9) hI1.1.1.1.1.1.V (hxs _) (hxs _) (fun z M' V S f => hQ z M' (hI1.1.1.2.go hI1.1.1.1.1.1.J.1 hI1.1.1.1.1.1.gs hI1.1.1.1.1.1.gk hI1.1.1.1.1.1.gc f (by decide +kernel))))) (P' := fun _ M2 => lq_W G M2 m s kp kc w) (fun Q hQ => lc_X12_told (d := 9) hI1.1.1.1.1.1.V (hxs _) (hxs _) (fun z M' V S f => hQ z M' (hI1.1.2.go hI1.1.1.1.1.1.J.1 hI1.1.1.1.1.1.gm hI1.1.1.1.1.1.gs hI1.1.1.1.1.1.gk hI1.1.1.1.1.1.gc f (by decide +kernel))))) (P' := fun _ M2 => lq_S G M2 s kp kc w) (fun Q hQ => lc_X12_told (d := 9) hI1.1.1.1.1.1.V (hxs _) (hxs _) (fun z M' V S f => hQ z M' (hI1.2.go hI1.1.1.1.1.1.J.1 hI1.1.1.1.1.1.gs hI1.1.1.1.1.1.gk hI1.1.1.1.1.1.gc f (by decide +kernel)))) _ (fun z2 M2 h9 => ?_))
  refine lv_is hz (L := lv_L b x m o i (some (.inl z)) v6) ?_
  exact lv_gt hz (kk M2 (some (.inl z)) (some (.inl z2)) h9)
set_option maxRecDepth 100000 in
theorem lp_loop (hz : lv_Z Z b n xs) (hxs : ∀ k, mj_in (xs k)) (hn : n ≤ 3072) (ho : G o = (90103, 1)) : ∀ (j : Nat) (i : Int) (M : mj_M) (v5 v6 : Option mj_V) (cb sb : Nat), 0 ≤ i → i ≤ 3072 → (n : Int) ≤ i + 6 * j + 5 → 4 * j ≤ cb → 64 * j ≤ sb → lp_N G M x m tp s kp bc bt kc kr w i → Z (mj_law.drop 13) (lv_L b x m o i v5 v6) [] G M cb sb := by
  have head : ∀ (i : Int) (M : mj_M) (v5 v6 : Option mj_V) (cb sb : Nat), 0 ≤ i → i ≤ 3072 → (i + 6 ≤ n → Z (mj_law.drop 19) (lv_L b x m o i v5 v6) [] G M cb sb) → Z (mj_law.drop 13) (lv_L b x m o i v5 v6) [] G M cb sb := by
    intro i M v5 v6 cb sb h0 h1 kk
    refine lv_il hz (z := i) rfl ?_
    refine lv_al hz (k := 0) (r := some b) rfl ?_
    refine hz.2.2.1 _ _ _ _ _ _ _ _ _ _ ?_
    refine lv_bp hz ?_
    refine lv_sb hz ⟨by omega, by omega⟩ ?_
    refine hz.1 _ _ _ _ _ _ _ (And.intro (fun _ => ?_) (fun c => ?_))
    · refine lv_ic (rest := mj_law.drop 763) hz ?_
      exact hz.1 _ _ _ _ _ _ _ ⟨rfl, fun _ => Or.inr rfl, rfl⟩
    · have c : ¬ ((n : Int) - 6 < i) := c
      exact kk (by omega)
  intro j
  induction j with
  | zero =>
    intro i M v5 v6 cb sb h0 h1 h2 _ _ _
    exact head i M v5 v6 cb sb h0 h1 (fun q => by exfalso; omega)
  | succ j ih =>
    intro i M v5 v6 cb sb h0 h1 h2 h3 h4 hI
    refine head i M v5 v6 cb sb h0 h1 (fun q => ?_)
    have hi : 0 ≤ i ∧ i + 6 ≤ n ∧ n ≤ 3072 := ⟨h0, q, hn⟩
    have hT : lv_T b n (lv_L b x m o i v5 v6) x m i := ⟨rfl, rfl, rfl, rfl, hi⟩
    have next : ∀ (M2 : mj_M) (v5 v6 : Option mj_V) (cb sb : Nat), lp_N G M2 x m tp s kp bc bt kc kr w (i + 6) → 4 * j ≤ cb → 64 * j ≤ sb → Z (mj_law.drop 760) (lv_L b x m o i v5 v6) [] G M2 cb sb := by
      intro M2 v5 v6 cb sb hI2 q1 q2
      refine hz.1 _ _ _ _ _ _ _ (Or.inl ⟨⟨by show (-2147483648 : Int) ≤ i + 6; omega, by show i + 6 < (2147483648 : Int); omega⟩, ?_⟩)
      exact lv_gt hz (ih (i + 6) M2 v5 v6 cb sb (by omega) (by omega) (by omega) q1 q2 hI2)
    refine lv_al hz (k := 0) (r := some b) rfl ?_
    refine lv_il hz (z := i) rfl ?_
    refine hz.2.1 _ _ _ _ _ _ _ _ _ _ _ h0 (by omega) ?_
    refine lv_bp hz ?_
    refine hz.1 _ _ _ _ _ _ _ (fun z _ _ => ?_)
    refine hz.1 _ _ _ _ _ _ _ (And.intro (fun _ => next M v5 v6 _ _ (hI.le (by omega)) (by omega) (by omega)) ?_)
    exact And.intro (fun _ => lk_feed hz hT hxs hI (fun M2 hI2 => next M2 v5 v6 _ _ hI2 (by omega) (by omega))) (And.intro (fun _ => lk_end hz hT hxs hI (fun M2 hI2 => next M2 v5 v6 _ _ hI2 (by omega) (by omega))) (And.intro (fun _ => lk_plain hz hT hxs hI (fun M2 hI2 => next M2 v5 v6 _ _ hI2 (by omega) (by omega))) (And.intro (fun _ => lk_fault hz hT hxs hI (fun M2 hI2 => next M2 v5 v6 _ _ hI2 (by omega) (by omega))) (And.intro (fun _ => lk_told hz hi hxs ho hI (by omega) (by omega) (fun M2 v5 v6 hI2 => next M2 v5 v6 _ _ hI2 (by omega) (by omega))) (And.intro (fun _ => lk_bid hz hT hxs hI (fun M2 hI2 => next M2 v5 v6 _ _ hI2 (by omega) (by omega))) (And.intro (fun _ => lk_offer hz hT hxs hI (fun M2 hI2 => next M2 v5 v6 _ _ hI2 (by omega) (by omega))) (And.intro (fun _ => lk_undo hz hT hxs hI (fun M2 hI2 => next M2 v5 v6 _ _ hI2 (by omega) (by omega))) (And.intro (fun _ => lk_water hz hT hxs hI (fun M2 hI2 => next M2 v5 v6 _ _ hI2 (by omega) (by omega))) (And.intro (fun _ => lk_contracts hz hT hxs hI (fun M2 hI2 => next M2 v5 v6 _ _ hI2 (by omega) (by omega))) (And.intro (fun _ => lk_contract hz hT hxs hI (fun M2 hI2 => next M2 v5 v6 _ _ hI2 (by omega) (by omega))) (And.intro (fun _ => lk_begin hz hT hxs hI (fun M2 hI2 => next M2 v5 v6 _ _ hI2 (by omega) (by omega))) (And.intro (fun _ => lk_on hz hT hxs hI (fun M2 hI2 => next M2 v5 v6 _ _ hI2 (by omega) (by omega))) (And.intro (fun _ => lk_year hz hT hxs hI (fun M2 hI2 => next M2 v5 v6 _ _ hI2 (by omega) (by omega))) (And.intro (fun _ => lk_town hz hT hxs hI (fun M2 hI2 => next M2 v5 v6 _ _ hI2 (by omega) (by omega))) (And.intro (fun _ => lk_let hz hT hxs hI (fun M2 hI2 => next M2 v5 v6 _ _ hI2 (by omega) (by omega))) (And.intro (fun _ => lk_droughts hz hT hxs hI (fun M2 hI2 => next M2 v5 v6 _ _ hI2 (by omega) (by omega))) (And.intro (fun _ => lk_cheapest hz hT hxs hI (fun M2 hI2 => next M2 v5 v6 _ _ hI2 (by omega) (by omega))) (And.intro (fun _ => lk_plan hz hT hxs hI (fun M2 hI2 => next M2 v5 v6 _ _ hI2 (by omega) (by omega))) (And.intro (fun _ => lk_take hz hT hxs hI (fun M2 hI2 => next M2 v5 v6 _ _ hI2 (by omega) (by omega))) (And.intro (fun _ => lk_rounds hz hT hxs hI (fun M2 hI2 => next M2 v5 v6 _ _ hI2 (by omega) (by omega))) (And.intro (fun _ => lk_has hz hT hxs hI (fun M2 hI2 => next M2 v5 v6 _ _ hI2 (by omega) (by omega))) (And.intro (fun _ => lk_price hz hT hxs hI (fun M2 hI2 => next M2 v5 v6 _ _ hI2 (by omega) (by omega))) (And.intro (fun _ => lk_leaks hz hT hxs hI (fun M2 hI2 => next M2 v5 v6 _ _ hI2 (by omega) (by omega))) (And.intro (fun _ => lk_leak hz hT hxs hI (fun M2 hI2 => next M2 v5 v6 _ _ hI2 (by omega) (by omega))) (And.intro (fun _ => lk_wettest hz hT hxs hI (fun M2 hI2 => next M2 v5 v6 _ _ hI2 (by omega) (by omega))) (And.intro (fun _ => lk_enough hz hT hxs hI (fun M2 hI2 => next M2 v5 v6 _ _ hI2 (by omega) (by omega))) (And.intro (fun _ => lk_shoresOf hz hT hxs hI (fun M2 hI2 => next M2 v5 v6 _ _ hI2 (by omega) (by omega))) (And.intro (fun _ => lk_thirsty hz hT hxs hI (fun M2 hI2 => next M2 v5 v6 _ _ hI2 (by omega) (by omega))) (And.intro (fun _ => lk_bidsOf hz hT hxs hI (fun M2 hI2 => next M2 v5 v6 _ _ hI2 (by omega) (by omega))) (And.intro (fun _ => lk_greatest hz hT hxs hI (fun M2 hI2 => next M2 v5 v6 _ _ hI2 (by omega) (by omega))) (And.intro (fun _ => lk_write hz hT hxs hI (fun M2 hI2 => next M2 v5 v6 _ _ hI2 (by omega) (by omega))) (And.intro (fun _ => lk_byteAt hz hT hxs hI (fun M2 hI2 => next M2 v5 v6 _ _ hI2 (by omega) (by omega))) (And.intro (fun _ => lk_worth hz hT hxs hI (fun M2 hI2 => next M2 v5 v6 _ _ hI2 (by omega) (by omega))) (And.intro (fun _ => lk_drawn hz hT hxs hI (fun M2 hI2 => next M2 v5 v6 _ _ hI2 (by omega) (by omega))) (And.intro (fun _ => lk_shores hz hT hxs hI (fun M2 hI2 => next M2 v5 v6 _ _ hI2 (by omega) (by omega))) (And.intro (fun _ => lk_must hz hT hxs hI (fun M2 hI2 => next M2 v5 v6 _ _ hI2 (by omega) (by omega))) (And.intro (fun _ => lk_sentence hz hT hxs hI (fun M2 hI2 => next M2 v5 v6 _ _ hI2 (by omega) (by omega))) (And.intro (fun _ => lk_said hz hT hxs hI (fun M2 hI2 => next M2 v5 v6 _ _ hI2 (by omega) (by omega))) (And.intro (fun _ => lk_image hz hT hxs hI (fun M2 hI2 => next M2 v5 v6 _ _ hI2 (by omega) (by omega))) (And.intro (fun _ => lk_restore hz hT hxs hI (fun M2 hI2 => next M2 v5 v6 _ _ hI2 (by omega) (by omega))) (And.intro (fun _ => lk_count hz hT hxs hI (fun M2 hI2 => next M2 v5 v6 _ _ hI2 (by omega) (by omega))) (trivial))))))))))))))))))))))))))))))))))))))))))
end LP
