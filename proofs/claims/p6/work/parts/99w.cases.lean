/-! ===== the law's cases (laid by a program) ===== -/

section LK
variable {Z : mj_S} {b n : Nat} {xs : Nat → Int} {L : mj_L} {G : mj_G} {M : mj_M} {cb sb x m tp s kp bc bt kc kr : Nat} {w : Nat → Nat} {i : Int}
set_option maxRecDepth 100000 in
theorem lk_feed (hz : lv_Z Z b n xs) (hT : lv_T b n L x m i) (hxs : ∀ k, mj_in (xs k)) (hI : lp_I G M x m tp s kp bc bt kc kr w) (kk : ∀ M2, lp_I G M2 x m tp s kp bc bt kc kr w → Z (mj_law.drop 777) L [] G M2 cb sb) : Z (mj_law.drop 25) L [] G M cb sb := by
  obtain ⟨n0, n1, n2⟩ := lp_size hI.1.1.1.1 hI.1.1.1.2.1.2.2.1
  refine lv_s5 (P := fun _ M1 => lw_V G M1 x m tp s kp ∧ lp_6 G M1 tp m bc bt ∧ lp_R G M1 x m s kp kc kr w ∧ M1.1 m 2 = M.1 tp 1 ∧ M1.1 bt = M.1 bt ∧ (∃ n0 : Nat, n0 ≤ 940 ∧ M.1 tp 1 = (n0 : Int) ∧ ((n0 ≤ 920 ∧ M1.1 bc = rv_f5 (M.1 bc) n0 (xs (i + 1).toNat) (xs (i + 2).toNat) (xs (i + 3).toNat) (xs (i + 4).toNat) (xs (i + 5).toNat) ∧ M1.1 tp 1 = M.1 tp 1 + 20) ∨ (920 < n0 ∧ M1.1 bc = M.1 bc ∧ M1.1 tp 1 = M.1 tp 1)))) (I := fun M2 => lp_I G M2 x m tp s kp bc bt kc kr w) (y1 := 124) (y2 := 187) hz hT hI.1.1.1.2.1.1 hI.1.1.1.2.1.2.1 rfl rfl ?_ ?_ kk
  · intro Q hQ
    refine lp_and lp_ok4.2.2.1 (lc_X11_feed (d := 9) (Q := fun r G' M' => ∃ z, r = some (.inl z) ∧ G' = G ∧ lw_V G M' x m tp s kp ∧ lp_6 G M' tp m bc bt ∧ lp_R G M' x m s kp kc kr w ∧ M'.1 m 2 = M.1 tp 1 ∧ M'.1 bt = M.1 bt ∧ ((M.1 tp 1 ≤ 920 ∧ M'.1 tp 1 = M.1 tp 1 + 20) ∨ (921 ≤ M.1 tp 1 ∧ M'.1 tp 1 = M.1 tp 1))) hI.1.1.1 (hxs _) (hxs _) (hxs _) (hxs _) (hxs _) (fun h M' V e1 e2 f => ⟨_, rfl, rfl, V, hI.1.2.1.go hI.1.1.1.2.1.2.2.1 hI.1.1.1.2.1.2.1 f (by decide +kernel), hI.2.go hI.1.1.1.2.1 f (by decide +kernel), e2.trans hI.1.1.2.symm, lp_7.t hI.1.2.1.2.1 f (by decide +kernel), Or.inl ⟨h, e1⟩⟩) (fun h M' V e1 e2 f => ⟨_, rfl, rfl, V, hI.1.2.1.go hI.1.1.1.2.1.2.2.1 hI.1.1.1.2.1.2.1 f (by decide +kernel), hI.2.go hI.1.1.1.2.1 f (by decide +kernel), e2.trans hI.1.1.2.symm, lp_7.t hI.1.2.1.2.1 f (by decide +kernel), Or.inr ⟨h, e1⟩⟩))
      (r_X11_feed2 (d := 38) (Q := fun _ _ M' => (n0 ≤ 920 ∧ M'.1 bc = rv_f5 (M.1 bc) n0 (xs (i + 1).toNat) (xs (i + 2).toNat) (xs (i + 3).toNat) (xs (i + 4).toNat) (xs (i + 5).toNat)) ∨ (920 < n0 ∧ M'.1 bc = M.1 bc)) hI.1.1.1.2.1.1 hI.1.1.1.2.1.2.2.1 hI.1.2.1.1 hI.1.1.1.2.2.1.1 hI.1.2.1.2.2.1 n2 n1 (fun h _ _ e => Or.inl ⟨h, e⟩) (fun h _ _ e => Or.inr ⟨h, e⟩)) (fun r G' M' h1 h2 => ?_)
    obtain ⟨z, rfl, rfl, V, v6, vR, v2, vt, vs⟩ := h1
    refine hQ z M' ⟨V, v6, vR, v2, vt, n0, n1, n2, ?_⟩
    rcases h2 with ⟨a1, a2⟩ | ⟨a1, a2⟩
    · refine Or.inl ⟨a1, a2, ?_⟩
      omega
    · refine Or.inr ⟨a1, a2, ?_⟩
      omega
  · intro z M1 h1 Q hQ
    obtain ⟨V1, v6, vR, v2, vt, k0, k1, k2, hc⟩ := h1
    have hk : k0 = n0 := by omega
    subst hk
    refine lp_and lp_ok4.2.2.2 (lc_X12_feed (d := 9) (Q := fun r G' M' => ∃ z, r = some (.inl z) ∧ G' = G ∧ lw_V G M' x m tp s kp ∧ lp_6 G M' tp m bc bt ∧ lp_R G M' x m s kp kc kr w ∧ M'.1 tp 1 = M1.1 tp 1 ∧ M'.1 bc = M1.1 bc ∧ ((M1.1 m 2 ≤ 920 ∧ M'.1 m 2 = M1.1 m 2 + 20) ∨ (921 ≤ M1.1 m 2 ∧ M'.1 m 2 = M1.1 m 2))) V1 (hxs _) (hxs _) (hxs _) (hxs _) (hxs _) (fun h M' V e1 e2 f => ⟨_, rfl, rfl, V, v6.go hI.1.1.1.2.1.2.2.1 hI.1.1.1.2.1.2.1 f (by decide +kernel), vR.go hI.1.1.1.2.1 f (by decide +kernel), e2, lp_7.c hI.1.2.1.1 f (by decide +kernel), Or.inl ⟨h, e1⟩⟩) (fun h M' V e1 e2 f => ⟨_, rfl, rfl, V, v6.go hI.1.1.1.2.1.2.2.1 hI.1.1.1.2.1.2.1 f (by decide +kernel), vR.go hI.1.1.1.2.1 f (by decide +kernel), e2, lp_7.c hI.1.2.1.1 f (by decide +kernel), Or.inr ⟨h, e1⟩⟩))
      (r_X12_feed2 (d := 38) (Q := fun _ _ M' => (k0 ≤ 920 ∧ M'.1 bt = rv_f5 (M1.1 bt) k0 (xs (i + 1).toNat) (xs (i + 2).toNat) (xs (i + 3).toNat) (xs (i + 4).toNat) (xs (i + 5).toNat)) ∨ (920 < k0 ∧ M'.1 bt = M1.1 bt)) hI.1.1.1.2.1.2.1 hI.1.2.1.2.1 v6.2.2.2.1 (v2.trans k2) k1 (fun h _ _ e => Or.inl ⟨h, e⟩) (fun h _ _ e => Or.inr ⟨h, e⟩)) (fun r G' M' h1 h2 => ?_)
    obtain ⟨z2, rfl, rfl, V, w6, wR, w1, wc, ws⟩ := h1
    refine hQ z2 M' ⟨⟨⟨V, ?_⟩, w6, ?_⟩, wR⟩
    · omega
    · rcases hc with ⟨a1, a2, a3⟩ | ⟨a1, a2, a3⟩
      · rcases h2 with ⟨b1, b2⟩ | ⟨b1, b2⟩
        · rw [wc, a2, b2, vt, hI.1.2.2]
        · exfalso; omega
      · rcases h2 with ⟨b1, b2⟩ | ⟨b1, b2⟩
        · exfalso; omega
        · rw [wc, a2, b2, vt, hI.1.2.2]
set_option maxRecDepth 100000 in
theorem lk_end (hz : lv_Z Z b n xs) (hT : lv_T b n L x m i) (hxs : ∀ k, mj_in (xs k)) (hI : lp_I G M x m tp s kp bc bt kc kr w) (kk : ∀ M2, lp_I G M2 x m tp s kp bc bt kc kr w → Z (mj_law.drop 777) L [] G M2 cb sb) : Z (mj_law.drop 82) L [] G M cb sb := lv_s1 (P := fun _ M1 => lw_V G M1 x m tp s kp ∧ lp_6 G M1 tp m bc bt ∧ M1.1 bc = M1.1 bt ∧ lp_R G M1 x m s kp kc kr w ∧ M1.1 m 2 = M.1 tp 1 ∧ (((xs (i + 1).toNat < 0 ∨ M.1 tp 1 < xs (i + 1).toNat) ∧ M1.1 tp 1 = M.1 tp 1) ∨ (0 ≤ xs (i + 1).toNat ∧ xs (i + 1).toNat ≤ M.1 tp 1 ∧ M1.1 tp 1 = xs (i + 1).toNat))) (I := fun M2 => lp_I G M2 x m tp s kp bc bt kc kr w) (y1 := 121) (y2 := 184) hz hT hI.1.1.1.2.1.1 hI.1.1.1.2.1.2.1 rfl rfl
  (fun Q hQ => lc_X11_end (d := 9) hI.1.1.1 (hxs _) (fun h M' V e1 e2 f => hQ _ M' ⟨V, hI.1.2.1.go hI.1.1.1.2.1.2.2.1 hI.1.1.1.2.1.2.1 f (by decide +kernel), (lp_7.c hI.1.2.1.1 f (by decide +kernel)).trans (hI.1.2.2.trans (lp_7.t hI.1.2.1.2.1 f (by decide +kernel)).symm), hI.2.go hI.1.1.1.2.1 f (by decide +kernel), e2.trans hI.1.1.2.symm, Or.inl ⟨h, e1⟩⟩) (fun h h' M' V e1 e2 f => hQ _ M' ⟨V, hI.1.2.1.go hI.1.1.1.2.1.2.2.1 hI.1.1.1.2.1.2.1 f (by decide +kernel), (lp_7.c hI.1.2.1.1 f (by decide +kernel)).trans (hI.1.2.2.trans (lp_7.t hI.1.2.1.2.1 f (by decide +kernel)).symm), hI.2.go hI.1.1.1.2.1 f (by decide +kernel), e2.trans hI.1.1.2.symm, Or.inr ⟨h, h', e1⟩⟩))
  (fun z M1 h1 Q hQ => lc_X12_end (d := 9) h1.1 (hxs _) (fun h M' V e1 e2 f => hQ _ M' (by have h2 := h1.2.2.2.2; exact ⟨⟨⟨V, by omega⟩, h1.2.1.go hI.1.1.1.2.1.2.2.1 hI.1.1.1.2.1.2.1 f (by decide +kernel), (lp_7.c hI.1.2.1.1 f (by decide +kernel)).trans (h1.2.2.1.trans (lp_7.t hI.1.2.1.2.1 f (by decide +kernel)).symm)⟩, h1.2.2.2.1.go hI.1.1.1.2.1 f (by decide +kernel)⟩)) (fun h h' M' V e1 e2 f => hQ _ M' (by have h2 := h1.2.2.2.2; exact ⟨⟨⟨V, by omega⟩, h1.2.1.go hI.1.1.1.2.1.2.2.1 hI.1.1.1.2.1.2.1 f (by decide +kernel), (lp_7.c hI.1.2.1.1 f (by decide +kernel)).trans (h1.2.2.1.trans (lp_7.t hI.1.2.1.2.1 f (by decide +kernel)).symm)⟩, h1.2.2.2.1.go hI.1.1.1.2.1 f (by decide +kernel)⟩))) kk
set_option maxRecDepth 100000 in
theorem lk_plain (hz : lv_Z Z b n xs) (hT : lv_T b n L x m i) (hxs : ∀ k, mj_in (xs k)) (hI : lp_I G M x m tp s kp bc bt kc kr w) (kk : ∀ M2, lp_I G M2 x m tp s kp bc bt kc kr w → Z (mj_law.drop 777) L [] G M2 cb sb) : Z (mj_law.drop 99) L [] G M cb sb := by
  obtain ⟨n0, n1, n2⟩ := lp_size hI.1.1.1.1 hI.1.1.1.2.1.2.2.1
  have hU0 := hI.2.2.2.2.2
  refine lv_s0 (P := fun _ M1 => lw_V G M1 x m tp s kp ∧ M1.1 tp 1 = 0 ∧ M1.1 m 2 = M.1 m 2 ∧ lp_6 G M1 tp m bc bt ∧ M1.1 bc = M.1 bc ∧ M1.1 bt = M.1 bt ∧ lw_K G M1 x m kc kr ∧ lq_mk M1 kc kr ∧ lq_T M1 s kp kr ∧ ∃ y, rv_z4 (M.1 bc) n0 y ∧ lq_p G M1 x s kp kc w y ∧ lq_up G M1 x m s w y) (I := fun M2 => lp_I G M2 x m tp s kp bc bt kc kr w) (y1 := 138) (y2 := 226) hz hT hI.1.1.1.2.1.1 hI.1.1.1.2.1.2.1 rfl rfl ?_ ?_ kk
  · intro Q hQ
    refine lp_and lp_ok4.1 (lc_X11_plain (d := 9) (Q := fun r G' M' => ∃ z, r = some (.inl z) ∧ G' = G ∧ lw_V G M' x m tp s kp ∧ M'.1 tp 1 = 0 ∧ M'.1 m 2 = M.1 m 2 ∧ lp_6 G M' tp m bc bt ∧ M'.1 bc = M.1 bc ∧ M'.1 bt = M.1 bt ∧ lw_K G M' x m kc kr ∧ lq_mk M' kc kr ∧ lq_T M' s kp kr ∧ ∀ y, (∀ e, y = .inl e → M'.1 (w 121) = M.1 (w 121)) → (∀ e, y = .inr e → M'.1 (w 121) 3 = 0) → lq_up G M' x m s w y) hI.1.1.1 (fun z M' V e1 e2 f => ⟨z, rfl, rfl, V, e1, e2, hI.1.2.1.go hI.1.1.1.2.1.2.2.1 hI.1.1.1.2.1.2.1 f (by decide +kernel), lp_7.c hI.1.2.1.1 f (by decide +kernel), lp_7.t hI.1.2.1.2.1 f (by decide +kernel), hI.2.1.fr hI.1.1.1.2.1.1 hI.1.1.1.2.1.2.1 f (by decide +kernel), lp_mk_go hI.2.2.1 hI.2.1.1 hI.2.1.2.1 f (by decide +kernel) (by decide +kernel), hI.2.2.2.2.1.ge hI.1.1.1.2.1.2.2.2.2 hI.2.1.2.1 f (by decide +kernel) (by decide +kernel) (lp_es2 hI.1.1.1.2.1.2.2.2.1 f (by decide +kernel)), fun y o1 o2 => lq_up1 hU0 hI.1.1.1.2.1.1 hI.1.1.1.2.1.2.1 hI.1.1.1.2.1.2.2.2.1 f (by decide +kernel) (by decide +kernel) o1 o2⟩)) (lq_pl1 hI.1.1.1.1 hI.1.1.1.2.1.1 hI.1.1.1.2.1.2.2.1 hI.1.1.1.2.1.2.2.2.1 hI.1.1.1.2.1.2.2.2.2 hI.2.1.1 hI.1.1.1.2.2.1.1 hU0.2.1.1 hU0.1.1 hI.1.2.1 hI.2.2.2.1 n1 n2) (fun r G' M' h1 h2 => ?_)
    obtain ⟨z, rfl, rfl, V, e1, e2, e6, ec, et, eK, em, eT, eU⟩ := h1
    obtain ⟨y, hy, ey, -, hp, u1, u2⟩ := h2
    exact hQ z M' ⟨V, e1, e2, e6, ec, et, eK, em, eT, y, hy, hp, eU y u1 u2⟩
  · intro z M1 h1 Q hQ
    obtain ⟨V, e1, e2, e6, ec, et, eK, em, eT, y0, hy, hp, hu⟩ := h1
    refine lp_and lp_ok4.2.1 (lc_X12_plain (d := 9) (Q := fun r G' M' => ∃ z, r = some (.inl z) ∧ G' = G ∧ lw_V G M' x m tp s kp ∧ M'.1 m 2 = 0 ∧ M'.1 tp 1 = M1.1 tp 1 ∧ lp_6 G M' tp m bc bt ∧ M'.1 bc = M1.1 bc ∧ M'.1 bt = M1.1 bt ∧ lw_K G M' x m kc kr ∧ lq_mk M' kc kr ∧ ((∀ e, y0 = .inl e → M'.1 s = M1.1 s ∧ M'.1 m 28 = M1.1 m 28) → (∀ PL WA OA TO BI nm r, y0 = .inr (PL, WA, OA, TO, BI, nm, r) → ∃ ns, rv_QO s ns PL WA TO BI nm M' ∧ M'.1 m 28 = 0) → lq_J G M' x s kp kc w ∧ lq_T M' s kp kr ∧ lq_U G M' x m s w)) V (fun z M' V e1 e2 f => ⟨z, rfl, rfl, V, e1, e2, e6.go hI.1.1.1.2.1.2.2.1 hI.1.1.1.2.1.2.1 f (by decide +kernel), lp_7.c hI.1.2.1.1 f (by decide +kernel), lp_7.t hI.1.2.1.2.1 f (by decide +kernel), eK.fr hI.1.1.1.2.1.1 hI.1.1.1.2.1.2.1 f (by decide +kernel), lp_mk_go em hI.2.1.1 hI.2.1.2.1 f (by decide +kernel) (by decide +kernel), fun o1 o2 => ?_⟩)) (lq_pl2 V hI.1.2.1.2.1 e6.2.2.2.1 (f := M.1 bc) (et.trans hI.1.2.2.symm) n1 (e2.trans (hI.1.1.2.symm.trans n2)) hy) (fun r G' M' h1 h2 => ?_)
    · have o1' : ∀ e, y0 = .inl e → M'.1 s = M1.1 s := fun e h => (o1 e h).1
      have hps : ∀ PL WA OA TO BI nm r, y0 = .inr (PL, WA, OA, TO, BI, nm, r) → rv_ps PL WA TO BI := fun PL WA OA TO BI nm r e => by
        obtain ⟨-, -, p, q, -, -, -, h⟩ := hp
        exact (h PL WA OA TO BI nm r e).1
      have T' := eT.pl hI.1.1.1.2.1.2.2.2.2 hI.2.1.2.1 f (by decide +kernel) (by decide +kernel) o1' (fun PL WA OA TO BI nm r e => ⟨(o2 PL WA OA TO BI nm r e).imp (fun ns h => h.1), hps PL WA OA TO BI nm r e⟩)
      refine ⟨lq_pl3 hI.1.1.1.2.1.1 hI.1.1.1.2.1.2.2.2.2 hI.2.1.1 hp f (by decide +kernel) (by decide +kernel) o1' (fun PL WA OA TO BI nm r e => (o2 PL WA OA TO BI nm r e).imp (fun ns h => h.1)), T', lq_up2 hu hI.1.1.1.2.1.1 hI.1.1.1.2.1.2.1 f (by decide +kernel) (by decide +kernel) o1 (fun e h => ?_) T'.1⟩
      obtain ⟨PL, WA, OA, TO, BI, nm, r⟩ := e
      exact (o2 PL WA OA TO BI nm r h).elim (fun ns h => h.2)
    obtain ⟨z2, rfl, rfl, V2, f1, f2, f6, fc, ft, fK, fm, fJ⟩ := h1
    obtain ⟨-, o1, o2⟩ := h2
    exact hQ z2 M' ⟨⟨⟨V2, by rw [f2, e1, f1]⟩, f6, by rw [fc, ec, ft, et]; exact hI.1.2.2⟩, fK, fm, fJ o1 (fun PL WA OA TO BI nm r e => by obtain ⟨ns, -, h⟩ := o2 PL WA OA TO BI nm r e; exact ⟨ns, h⟩)⟩
set_option maxRecDepth 100000 in
theorem lk_fault (hz : lv_Z Z b n xs) (hT : lv_T b n L x m i) (hxs : ∀ k, mj_in (xs k)) (hI : lp_I G M x m tp s kp bc bt kc kr w) (kk : ∀ M2, lp_I G M2 x m tp s kp bc bt kc kr w → Z (mj_law.drop 777) L [] G M2 cb sb) : Z (mj_law.drop 106) L [] G M cb sb := lv_s0 (P := fun _ M1 => lp_I G M1 x m tp s kp bc bt kc kr w) (I := fun M2 => lp_I G M2 x m tp s kp bc bt kc kr w) (y1 := 123) (y2 := 186) hz hT hI.1.1.1.2.1.1 hI.1.1.1.2.1.2.1 rfl rfl
  (fun Q hQ => lc_X11_fault (d := 9) hI.1.1.1 (fun z M' V S f => hQ z M' (hI.go V S f (by decide +kernel) (by decide +kernel) (by decide +kernel))))
  (fun z M1 h1 Q hQ => lc_X12_fault (d := 9) h1.1.1.1 (fun z M' V S f => hQ z M' (h1.go V S f (by decide +kernel) (by decide +kernel) (by decide +kernel)))) kk
set_option maxRecDepth 100000 in
theorem lk_bid (hz : lv_Z Z b n xs) (hT : lv_T b n L x m i) (hxs : ∀ k, mj_in (xs k)) (hI : lp_I G M x m tp s kp bc bt kc kr w) (kk : ∀ M2, lp_I G M2 x m tp s kp bc bt kc kr w → Z (mj_law.drop 777) L [] G M2 cb sb) : Z (mj_law.drop 158) L [] G M cb sb := lv_s2 (P := fun _ M1 => lp_I G M1 x m tp s kp bc bt kc kr w) (I := fun M2 => lp_I G M2 x m tp s kp bc bt kc kr w) (y1 := 111) (y2 := 165) hz hT hI.1.1.1.2.1.1 hI.1.1.1.2.1.2.1 rfl rfl
  (fun Q hQ => lc_X11_bid (d := 9) hI.1.1.1 (hxs _) (hxs _) (fun z M' V S f => hQ z M' (hI.go V S f (by decide +kernel) (by decide +kernel) (by decide +kernel))))
  (fun z M1 h1 Q hQ => lc_X12_bid (d := 9) h1.1.1.1 (hxs _) (hxs _) (fun z M' V S f => hQ z M' (h1.go V S f (by decide +kernel) (by decide +kernel) (by decide +kernel)))) kk
set_option maxRecDepth 100000 in
theorem lk_offer (hz : lv_Z Z b n xs) (hT : lv_T b n L x m i) (hxs : ∀ k, mj_in (xs k)) (hI : lp_I G M x m tp s kp bc bt kc kr w) (kk : ∀ M2, lp_I G M2 x m tp s kp bc bt kc kr w → Z (mj_law.drop 777) L [] G M2 cb sb) : Z (mj_law.drop 185) L [] G M cb sb := by
  refine lv_s3 (P := fun z M1 => lw_V G M1 x m tp s kp ∧ M1.1 tp 1 = M1.1 m 2 ∧ lp_6 G M1 tp m bc bt ∧ M1.1 bc = M1.1 bt ∧ lw_K G M1 x m kc kr ∧ lq_mk M1 kc kr ∧ lq_o w s m (xs (i + 1).toNat) (xs (i + 2).toNat) (xs (i + 3).toNat) M M1 z) (I := fun M2 => lp_I G M2 x m tp s kp bc bt kc kr w) (y1 := 136) (y2 := 220) hz hT hI.1.1.1.2.1.1 hI.1.1.1.2.1.2.1 rfl rfl ?_ ?_ kk
  · intro Q hQ
    refine lp_and lp_ok6.1 (lc_X11_offer (d := 9) (Q := fun r G' M' => ∃ z, r = some (.inl z) ∧ G' = G ∧ lw_V G M' x m tp s kp ∧ M'.1 tp 1 = M'.1 m 2 ∧ lp_6 G M' tp m bc bt ∧ M'.1 bc = M'.1 bt ∧ lw_K G M' x m kc kr ∧ lq_mk M' kc kr) hI.1.1.1 (hxs _) (hxs _) (hxs _) (fun z M' V S f => ⟨z, rfl, rfl, V, S.1.trans (hI.1.1.2.trans S.2.symm), hI.1.2.1.go hI.1.1.1.2.1.2.2.1 hI.1.1.1.2.1.2.1 f (by decide +kernel), (lp_7.c hI.1.2.1.1 f (by decide +kernel)).trans (hI.1.2.2.trans (lp_7.t hI.1.2.1.2.1 f (by decide +kernel)).symm), hI.2.1.fr hI.1.1.1.2.1.1 hI.1.1.1.2.1.2.1 f (by decide +kernel), lp_mk_go hI.2.2.1 hI.2.1.1 hI.2.1.2.1 f (by decide +kernel) (by decide +kernel)⟩)) (lq_of1 hI.1.1.1.2.1.1 hI.2.2.2.1 hI.2.2.2.2.1 hI.2.2.2.2.2) (fun r G' M' h1 h2 => ?_)
    obtain ⟨z, rfl, rfl, V, e1, e6, eb, eK, em⟩ := h1
    obtain ⟨-, y, ey, ho⟩ := h2
    exact hQ z M' ⟨V, e1, e6, eb, eK, em, by rw [Sum.inl.inj (Option.some.inj ey)]; exact ho⟩
  · intro z M1 h1 Q hQ
    obtain ⟨V, e1, e6, eb, eK, em, ho⟩ := h1
    refine lp_and lp_ok6.2.1 (lc_X12_offer (d := 9) (Q := fun r G' M' => ∃ z, r = some (.inl z) ∧ G' = G ∧ lw_V G M' x m tp s kp ∧ M'.1 tp 1 = M'.1 m 2 ∧ lp_6 G M' tp m bc bt ∧ M'.1 bc = M'.1 bt ∧ lw_K G M' x m kc kr ∧ lq_mk M' kc kr) V (hxs _) (hxs _) (hxs _) (fun z M' V S f => ⟨z, rfl, rfl, V, S.1.trans (e1.trans S.2.symm), e6.go hI.1.1.1.2.1.2.2.1 hI.1.1.1.2.1.2.1 f (by decide +kernel), (lp_7.c hI.1.2.1.1 f (by decide +kernel)).trans (eb.trans (lp_7.t hI.1.2.1.2.1 f (by decide +kernel)).symm), eK.fr hI.1.1.1.2.1.1 hI.1.1.1.2.1.2.1 f (by decide +kernel), lp_mk_go em hI.2.1.1 hI.2.1.2.1 f (by decide +kernel) (by decide +kernel)⟩)) (lq_of2 hI.1.1.1.2.1.1 hI.1.1.1.2.1.2.1 hI.1.1.1.2.1.2.2.2.1 hI.1.1.1.2.1.2.2.2.2 hI.2.1.1 hI.2.1.2.1 hI.1.1.1.2.2.1.2.1 hI.2.2.2.1 hI.2.2.2.2.1 hI.2.2.2.2.2 ho) (fun r G' M' h1 h2 => ?_)
    obtain ⟨z2, rfl, rfl, V2, g1, g6, gb, gK, gm⟩ := h1
    obtain ⟨-, ez, hJ, hT, hU⟩ := h2
    exact hQ z2 M' ⟨⟨⟨V2, g1⟩, g6, gb⟩, gK, gm, hJ, hT, hU⟩
set_option maxRecDepth 100000 in
theorem lk_undo (hz : lv_Z Z b n xs) (hT : lv_T b n L x m i) (hxs : ∀ k, mj_in (xs k)) (hI : lp_I G M x m tp s kp bc bt kc kr w) (kk : ∀ M2, lp_I G M2 x m tp s kp bc bt kc kr w → Z (mj_law.drop 777) L [] G M2 cb sb) : Z (mj_law.drop 222) L [] G M cb sb := by
  refine lv_s0 (P := fun z M1 => lw_V G M1 x m tp s kp ∧ M1.1 tp 1 = M1.1 m 2 ∧ lp_6 G M1 tp m bc bt ∧ M1.1 bc = M1.1 bt ∧ lw_K G M1 x m kc kr ∧ lq_mk M1 kc kr ∧ lq_v w m M M1 z) (I := fun M2 => lp_I G M2 x m tp s kp bc bt kc kr w) (y1 := 154) (y2 := 253) hz hT hI.1.1.1.2.1.1 hI.1.1.1.2.1.2.1 rfl rfl ?_ ?_ kk
  · intro Q hQ
    refine lp_and lp_ok6.2.2.1 (lc_X11_undo (d := 9) (Q := fun r G' M' => ∃ z, r = some (.inl z) ∧ G' = G ∧ lw_V G M' x m tp s kp ∧ M'.1 tp 1 = M'.1 m 2 ∧ lp_6 G M' tp m bc bt ∧ M'.1 bc = M'.1 bt ∧ lw_K G M' x m kc kr ∧ lq_mk M' kc kr) hI.1.1.1 (fun z M' V S f => ⟨z, rfl, rfl, V, S.1.trans (hI.1.1.2.trans S.2.symm), hI.1.2.1.go hI.1.1.1.2.1.2.2.1 hI.1.1.1.2.1.2.1 f (by decide +kernel), (lp_7.c hI.1.2.1.1 f (by decide +kernel)).trans (hI.1.2.2.trans (lp_7.t hI.1.2.1.2.1 f (by decide +kernel)).symm), hI.2.1.fr hI.1.1.1.2.1.1 hI.1.1.1.2.1.2.1 f (by decide +kernel), lp_mk_go hI.2.2.1 hI.2.1.1 hI.2.1.2.1 f (by decide +kernel) (by decide +kernel)⟩)) (lq_un1 hI.1.1.1.2.1.1 hI.2.2.2.1 hI.2.2.2.2.1 hI.2.2.2.2.2) (fun r G' M' h1 h2 => ?_)
    obtain ⟨z, rfl, rfl, V, e1, e6, eb, eK, em⟩ := h1
    obtain ⟨-, y, ey, ho⟩ := h2
    exact hQ z M' ⟨V, e1, e6, eb, eK, em, by rw [Sum.inl.inj (Option.some.inj ey)]; exact ho⟩
  · intro z M1 h1 Q hQ
    obtain ⟨V, e1, e6, eb, eK, em, ho⟩ := h1
    refine lp_and lp_ok6.2.2.2.1 (lc_X12_undo (d := 9) (Q := fun r G' M' => ∃ z, r = some (.inl z) ∧ G' = G ∧ lw_V G M' x m tp s kp ∧ M'.1 tp 1 = M'.1 m 2 ∧ lp_6 G M' tp m bc bt ∧ M'.1 bc = M'.1 bt ∧ lw_K G M' x m kc kr ∧ lq_mk M' kc kr) V (fun z M' V S f => ⟨z, rfl, rfl, V, S.1.trans (e1.trans S.2.symm), e6.go hI.1.1.1.2.1.2.2.1 hI.1.1.1.2.1.2.1 f (by decide +kernel), (lp_7.c hI.1.2.1.1 f (by decide +kernel)).trans (eb.trans (lp_7.t hI.1.2.1.2.1 f (by decide +kernel)).symm), eK.fr hI.1.1.1.2.1.1 hI.1.1.1.2.1.2.1 f (by decide +kernel), lp_mk_go em hI.2.1.1 hI.2.1.2.1 f (by decide +kernel) (by decide +kernel)⟩)) (lq_un2 hI.1.1.1.2.1.1 hI.1.1.1.2.1.2.1 hI.1.1.1.2.1.2.2.2.1 hI.1.1.1.2.1.2.2.2.2 hI.2.1.1 hI.2.1.2.1 hI.1.1.1.2.2.1.2.1 hI.2.2.2.1 hI.2.2.2.2.1 hI.2.2.2.2.2 ho) (fun r G' M' h1 h2 => ?_)
    obtain ⟨z2, rfl, rfl, V2, g1, g6, gb, gK, gm⟩ := h1
    obtain ⟨-, ez, hJ, hT, hU⟩ := h2
    exact hQ z2 M' ⟨⟨⟨V2, g1⟩, g6, gb⟩, gK, gm, hJ, hT, hU⟩
set_option maxRecDepth 100000 in
theorem lk_water (hz : lv_Z Z b n xs) (hT : lv_T b n L x m i) (hxs : ∀ k, mj_in (xs k)) (hI : lp_I G M x m tp s kp bc bt kc kr w) (kk : ∀ M2, lp_I G M2 x m tp s kp bc bt kc kr w → Z (mj_law.drop 777) L [] G M2 cb sb) : Z (mj_law.drop 229) L [] G M cb sb := lv_s1 (P := fun _ M1 => lp_I G M1 x m tp s kp bc bt kc kr w) (I := fun M2 => lp_I G M2 x m tp s kp bc bt kc kr w) (y1 := 155) (y2 := 256) hz hT hI.1.1.1.2.1.1 hI.1.1.1.2.1.2.1 rfl rfl
  (fun Q hQ => lc_X11_water (d := 9) hI.1.1.1 (hxs _) (fun z M' V S f => hQ z M' (hI.go V S f (by decide +kernel) (by decide +kernel) (by decide +kernel))))
  (fun z M1 h1 Q hQ => lc_X12_water (d := 9) h1.1.1.1 (hxs _) (fun z M' V S f => hQ z M' (h1.go V S f (by decide +kernel) (by decide +kernel) (by decide +kernel)))) kk
set_option maxRecDepth 100000 in
theorem lk_contracts (hz : lv_Z Z b n xs) (hT : lv_T b n L x m i) (hxs : ∀ k, mj_in (xs k)) (hI : lp_I G M x m tp s kp bc bt kc kr w) (kk : ∀ M2, lp_I G M2 x m tp s kp bc bt kc kr w → Z (mj_law.drop 777) L [] G M2 cb sb) : Z (mj_law.drop 246) L [] G M cb sb := lv_s0 (P := fun _ M1 => lw_V G M1 x m tp s kp ∧ M1.1 tp 1 = 0 ∧ lp_6 G M1 tp m bc bt ∧ M1.1 bc = M1.1 bt ∧ lp_R G M1 x m s kp kc kr w) (I := fun M2 => lp_I G M2 x m tp s kp bc bt kc kr w) (y1 := 117) (y2 := 177) hz hT hI.1.1.1.2.1.1 hI.1.1.1.2.1.2.1 rfl rfl
  (fun Q hQ => lc_X11_contracts (d := 9) hI.1.1.1 (fun z M' V e1 e2 f => hQ z M' ⟨V, e1, hI.1.2.1.go hI.1.1.1.2.1.2.2.1 hI.1.1.1.2.1.2.1 f (by decide +kernel), (lp_7.c hI.1.2.1.1 f (by decide +kernel)).trans (hI.1.2.2.trans (lp_7.t hI.1.2.1.2.1 f (by decide +kernel)).symm), hI.2.go hI.1.1.1.2.1 f (by decide +kernel)⟩))
  (fun z M1 h1 Q hQ => lc_X12_contracts (d := 9) h1.1 (fun z M' V e1 e2 f => hQ z M' ⟨⟨⟨V, by rw [e1, e2]; exact h1.2.1⟩, h1.2.2.1.go hI.1.1.1.2.1.2.2.1 hI.1.1.1.2.1.2.1 f (by decide +kernel), (lp_7.c hI.1.2.1.1 f (by decide +kernel)).trans (h1.2.2.2.1.trans (lp_7.t hI.1.2.1.2.1 f (by decide +kernel)).symm)⟩, h1.2.2.2.2.go hI.1.1.1.2.1 f (by decide +kernel)⟩)) kk
set_option maxRecDepth 100000 in
theorem lk_contract (hz : lv_Z Z b n xs) (hT : lv_T b n L x m i) (hxs : ∀ k, mj_in (xs k)) (hI : lp_I G M x m tp s kp bc bt kc kr w) (kk : ∀ M2, lp_I G M2 x m tp s kp bc bt kc kr w → Z (mj_law.drop 777) L [] G M2 cb sb) : Z (mj_law.drop 253) L [] G M cb sb := lv_s2 (P := fun _ M1 => lp_I G M1 x m tp s kp bc bt kc kr w) (I := fun M2 => lp_I G M2 x m tp s kp bc bt kc kr w) (y1 := 116) (y2 := 176) hz hT hI.1.1.1.2.1.1 hI.1.1.1.2.1.2.1 rfl rfl
  (fun Q hQ => lc_X11_contract (d := 9) hI.1.1.1 (hxs _) (hxs _) (fun z M' V S f => hQ z M' (hI.go V S f (by decide +kernel) (by decide +kernel) (by decide +kernel))))
  (fun z M1 h1 Q hQ => lc_X12_contract (d := 9) h1.1.1.1 (hxs _) (hxs _) (fun z M' V S f => hQ z M' (h1.go V S f (by decide +kernel) (by decide +kernel) (by decide +kernel)))) kk
set_option maxRecDepth 100000 in
theorem lk_begin (hz : lv_Z Z b n xs) (hT : lv_T b n L x m i) (hxs : ∀ k, mj_in (xs k)) (hI : lp_I G M x m tp s kp bc bt kc kr w) (kk : ∀ M2, lp_I G M2 x m tp s kp bc bt kc kr w → Z (mj_law.drop 777) L [] G M2 cb sb) : Z (mj_law.drop 280) L [] G M cb sb := lv_s0 (P := fun _ M1 => lp_I G M1 x m tp s kp bc bt kc kr w) (I := fun M2 => lp_I G M2 x m tp s kp bc bt kc kr w) (y1 := 110) (y2 := 162) hz hT hI.1.1.1.2.1.1 hI.1.1.1.2.1.2.1 rfl rfl
  (fun Q hQ => lc_X11_begin (d := 9) hI.1.1.1 (fun z M' V S f => hQ z M' (hI.go V S f (by decide +kernel) (by decide +kernel) (by decide +kernel))))
  (fun z M1 h1 Q hQ => lc_X12_begin (d := 9) h1.1.1.1 (fun z M' V S f => hQ z M' (h1.go V S f (by decide +kernel) (by decide +kernel) (by decide +kernel)))) kk
set_option maxRecDepth 100000 in
theorem lk_on (hz : lv_Z Z b n xs) (hT : lv_T b n L x m i) (hxs : ∀ k, mj_in (xs k)) (hI : lp_I G M x m tp s kp bc bt kc kr w) (kk : ∀ M2, lp_I G M2 x m tp s kp bc bt kc kr w → Z (mj_law.drop 777) L [] G M2 cb sb) : Z (mj_law.drop 287) L [] G M cb sb := lv_s1 (P := fun _ M1 => lp_I G M1 x m tp s kp bc bt kc kr w) (I := fun M2 => lp_I G M2 x m tp s kp bc bt kc kr w) (y1 := 137) (y2 := 221) hz hT hI.1.1.1.2.1.1 hI.1.1.1.2.1.2.1 rfl rfl
  (fun Q hQ => lc_X11_on (d := 9) hI.1.1.1 (hxs _) (fun z M' V S f => hQ z M' (hI.go V S f (by decide +kernel) (by decide +kernel) (by decide +kernel))))
  (fun z M1 h1 Q hQ => lc_X12_on (d := 9) h1.1.1.1 (hxs _) (fun z M' V S f => hQ z M' (h1.go V S f (by decide +kernel) (by decide +kernel) (by decide +kernel)))) kk
set_option maxRecDepth 100000 in
theorem lk_year (hz : lv_Z Z b n xs) (hT : lv_T b n L x m i) (hxs : ∀ k, mj_in (xs k)) (hI : lp_I G M x m tp s kp bc bt kc kr w) (kk : ∀ M2, lp_I G M2 x m tp s kp bc bt kc kr w → Z (mj_law.drop 777) L [] G M2 cb sb) : Z (mj_law.drop 304) L [] G M cb sb := lv_s1 (P := fun _ M1 => lp_I G M1 x m tp s kp bc bt kc kr w) (I := fun M2 => lp_I G M2 x m tp s kp bc bt kc kr w) (y1 := 159) (y2 := 261) hz hT hI.1.1.1.2.1.1 hI.1.1.1.2.1.2.1 rfl rfl
  (fun Q hQ => lc_X11_year (d := 9) hI.1.1.1 (hxs _) (fun z M' V S f => hQ z M' (hI.go V S f (by decide +kernel) (by decide +kernel) (by decide +kernel))))
  (fun z M1 h1 Q hQ => lc_X12_year (d := 9) h1.1.1.1 (hxs _) (fun z M' V S f => hQ z M' (h1.go V S f (by decide +kernel) (by decide +kernel) (by decide +kernel)))) kk
set_option maxRecDepth 100000 in
theorem lk_town (hz : lv_Z Z b n xs) (hT : lv_T b n L x m i) (hxs : ∀ k, mj_in (xs k)) (hI : lp_I G M x m tp s kp bc bt kc kr w) (kk : ∀ M2, lp_I G M2 x m tp s kp bc bt kc kr w → Z (mj_law.drop 777) L [] G M2 cb sb) : Z (mj_law.drop 321) L [] G M cb sb := lv_s2 (P := fun _ M1 => lp_I G M1 x m tp s kp bc bt kc kr w) (I := fun M2 => lp_I G M2 x m tp s kp bc bt kc kr w) (y1 := 152) (y2 := 252) hz hT hI.1.1.1.2.1.1 hI.1.1.1.2.1.2.1 rfl rfl
  (fun Q hQ => lc_X11_town (d := 9) hI.1.1.1 (hxs _) (hxs _) (fun z M' V S f => hQ z M' (hI.go V S f (by decide +kernel) (by decide +kernel) (by decide +kernel))))
  (fun z M1 h1 Q hQ => lc_X12_town (d := 9) h1.1.1.1 (hxs _) (hxs _) (fun z M' V S f => hQ z M' (h1.go V S f (by decide +kernel) (by decide +kernel) (by decide +kernel)))) kk
set_option maxRecDepth 100000 in
theorem lk_let (hz : lv_Z Z b n xs) (hT : lv_T b n L x m i) (hxs : ∀ k, mj_in (xs k)) (hI : lp_I G M x m tp s kp bc bt kc kr w) (kk : ∀ M2, lp_I G M2 x m tp s kp bc bt kc kr w → Z (mj_law.drop 777) L [] G M2 cb sb) : Z (mj_law.drop 348) L [] G M cb sb := lv_s2 (P := fun _ M1 => lp_I G M1 x m tp s kp bc bt kc kr w) (I := fun M2 => lp_I G M2 x m tp s kp bc bt kc kr w) (y1 := 133) (y2 := 211) hz hT hI.1.1.1.2.1.1 hI.1.1.1.2.1.2.1 rfl rfl
  (fun Q hQ => lc_X11_let (d := 9) hI.1.1.1 (hxs _) (hxs _) (fun z M' V S f => hQ z M' (hI.go V S f (by decide +kernel) (by decide +kernel) (by decide +kernel))))
  (fun z M1 h1 Q hQ => lc_X12_let (d := 9) h1.1.1.1 (hxs _) (hxs _) (fun z M' V S f => hQ z M' (h1.go V S f (by decide +kernel) (by decide +kernel) (by decide +kernel)))) kk
set_option maxRecDepth 100000 in
theorem lk_droughts (hz : lv_Z Z b n xs) (hT : lv_T b n L x m i) (hxs : ∀ k, mj_in (xs k)) (hI : lp_I G M x m tp s kp bc bt kc kr w) (kk : ∀ M2, lp_I G M2 x m tp s kp bc bt kc kr w → Z (mj_law.drop 777) L [] G M2 cb sb) : Z (mj_law.drop 375) L [] G M cb sb := lv_s0 (P := fun _ M1 => lp_I G M1 x m tp s kp bc bt kc kr w) (I := fun M2 => lp_I G M2 x m tp s kp bc bt kc kr w) (y1 := 120) (y2 := 183) hz hT hI.1.1.1.2.1.1 hI.1.1.1.2.1.2.1 rfl rfl
  (fun Q hQ => lc_X11_droughts (d := 9) hI.1.1.1 (fun z M' V S f => hQ z M' (hI.go V S f (by decide +kernel) (by decide +kernel) (by decide +kernel))))
  (fun z M1 h1 Q hQ => lc_X12_droughts (d := 9) h1.1.1.1 (fun z M' V S f => hQ z M' (h1.go V S f (by decide +kernel) (by decide +kernel) (by decide +kernel)))) kk
set_option maxRecDepth 100000 in
theorem lk_cheapest (hz : lv_Z Z b n xs) (hT : lv_T b n L x m i) (hxs : ∀ k, mj_in (xs k)) (hI : lp_I G M x m tp s kp bc bt kc kr w) (kk : ∀ M2, lp_I G M2 x m tp s kp bc bt kc kr w → Z (mj_law.drop 777) L [] G M2 cb sb) : Z (mj_law.drop 382) L [] G M cb sb := lv_s0 (P := fun _ M1 => lp_I G M1 x m tp s kp bc bt kc kr w) (I := fun M2 => lp_I G M2 x m tp s kp bc bt kc kr w) (y1 := 114) (y2 := 173) hz hT hI.1.1.1.2.1.1 hI.1.1.1.2.1.2.1 rfl rfl
  (fun Q hQ => lc_X11_cheapest (d := 9) hI.1.1.1 (fun z M' V S f => hQ z M' (hI.go V S f (by decide +kernel) (by decide +kernel) (by decide +kernel))))
  (fun z M1 h1 Q hQ => lc_X12_cheapest (d := 9) h1.1.1.1 (fun z M' V S f => hQ z M' (h1.go V S f (by decide +kernel) (by decide +kernel) (by decide +kernel)))) kk
set_option maxRecDepth 100000 in
theorem lk_plan (hz : lv_Z Z b n xs) (hT : lv_T b n L x m i) (hxs : ∀ k, mj_in (xs k)) (hI : lp_I G M x m tp s kp bc bt kc kr w) (kk : ∀ M2, lp_I G M2 x m tp s kp bc bt kc kr w → Z (mj_law.drop 777) L [] G M2 cb sb) : Z (mj_law.drop 389) L [] G M cb sb := lv_s1 (P := fun _ M1 => lp_I G M1 x m tp s kp bc bt kc kr w) (I := fun M2 => lp_I G M2 x m tp s kp bc bt kc kr w) (y1 := 139) (y2 := 227) hz hT hI.1.1.1.2.1.1 hI.1.1.1.2.1.2.1 rfl rfl
  (fun Q hQ => lc_X11_plan (d := 9) hI.1.1.1 (hxs _) (fun z M' V S f => hQ z M' (hI.go V S f (by decide +kernel) (by decide +kernel) (by decide +kernel))))
  (fun z M1 h1 Q hQ => lc_X12_plan (d := 9) h1.1.1.1 (hxs _) (fun z M' V S f => hQ z M' (h1.go V S f (by decide +kernel) (by decide +kernel) (by decide +kernel)))) kk
set_option maxRecDepth 100000 in
theorem lk_take (hz : lv_Z Z b n xs) (hT : lv_T b n L x m i) (hxs : ∀ k, mj_in (xs k)) (hI : lp_I G M x m tp s kp bc bt kc kr w) (kk : ∀ M2, lp_I G M2 x m tp s kp bc bt kc kr w → Z (mj_law.drop 777) L [] G M2 cb sb) : Z (mj_law.drop 406) L [] G M cb sb := lv_s0 (P := fun _ M1 => lp_I G M1 x m tp s kp bc bt kc kr w) (I := fun M2 => lp_I G M2 x m tp s kp bc bt kc kr w) (y1 := 150) (y2 := 244) hz hT hI.1.1.1.2.1.1 hI.1.1.1.2.1.2.1 rfl rfl
  (fun Q hQ => lc_X11_take (d := 9) hI.1.1.1 (fun z M' V S f => hQ z M' (hI.go V S f (by decide +kernel) (by decide +kernel) (by decide +kernel))))
  (fun z M1 h1 Q hQ => lc_X12_take (d := 9) h1.1.1.1 (fun z M' V S f => hQ z M' (h1.go V S f (by decide +kernel) (by decide +kernel) (by decide +kernel)))) kk
set_option maxRecDepth 100000 in
theorem lk_rounds (hz : lv_Z Z b n xs) (hT : lv_T b n L x m i) (hxs : ∀ k, mj_in (xs k)) (hI : lp_I G M x m tp s kp bc bt kc kr w) (kk : ∀ M2, lp_I G M2 x m tp s kp bc bt kc kr w → Z (mj_law.drop 777) L [] G M2 cb sb) : Z (mj_law.drop 413) L [] G M cb sb := lv_s1 (P := fun _ M1 => lp_I G M1 x m tp s kp bc bt kc kr w) (I := fun M2 => lp_I G M2 x m tp s kp bc bt kc kr w) (y1 := 145) (y2 := 236) hz hT hI.1.1.1.2.1.1 hI.1.1.1.2.1.2.1 rfl rfl
  (fun Q hQ => lc_X11_rounds (d := 9) hI.1.1.1 (hxs _) (fun z M' V S f => hQ z M' (hI.go V S f (by decide +kernel) (by decide +kernel) (by decide +kernel))))
  (fun z M1 h1 Q hQ => lc_X12_rounds (d := 9) h1.1.1.1 (hxs _) (fun z M' V S f => hQ z M' (h1.go V S f (by decide +kernel) (by decide +kernel) (by decide +kernel)))) kk
set_option maxRecDepth 100000 in
theorem lk_has (hz : lv_Z Z b n xs) (hT : lv_T b n L x m i) (hxs : ∀ k, mj_in (xs k)) (hI : lp_I G M x m tp s kp bc bt kc kr w) (kk : ∀ M2, lp_I G M2 x m tp s kp bc bt kc kr w → Z (mj_law.drop 777) L [] G M2 cb sb) : Z (mj_law.drop 430) L [] G M cb sb := lv_s1 (P := fun _ M1 => lp_I G M1 x m tp s kp bc bt kc kr w) (I := fun M2 => lp_I G M2 x m tp s kp bc bt kc kr w) (y1 := 126) (y2 := 193) hz hT hI.1.1.1.2.1.1 hI.1.1.1.2.1.2.1 rfl rfl
  (fun Q hQ => lc_X11_has (d := 9) hI.1.1.1 (hxs _) (fun z M' V S f => hQ z M' (hI.go V S f (by decide +kernel) (by decide +kernel) (by decide +kernel))))
  (fun z M1 h1 Q hQ => lc_X12_has (d := 9) h1.1.1.1 (hxs _) (fun z M' V S f => hQ z M' (h1.go V S f (by decide +kernel) (by decide +kernel) (by decide +kernel)))) kk
set_option maxRecDepth 100000 in
theorem lk_price (hz : lv_Z Z b n xs) (hT : lv_T b n L x m i) (hxs : ∀ k, mj_in (xs k)) (hI : lp_I G M x m tp s kp bc bt kc kr w) (kk : ∀ M2, lp_I G M2 x m tp s kp bc bt kc kr w → Z (mj_law.drop 777) L [] G M2 cb sb) : Z (mj_law.drop 447) L [] G M cb sb := lv_s1 (P := fun _ M1 => lp_I G M1 x m tp s kp bc bt kc kr w) (I := fun M2 => lp_I G M2 x m tp s kp bc bt kc kr w) (y1 := 140) (y2 := 228) hz hT hI.1.1.1.2.1.1 hI.1.1.1.2.1.2.1 rfl rfl
  (fun Q hQ => lc_X11_price (d := 9) hI.1.1.1 (hxs _) (fun z M' V S f => hQ z M' (hI.go V S f (by decide +kernel) (by decide +kernel) (by decide +kernel))))
  (fun z M1 h1 Q hQ => lc_X12_price (d := 9) h1.1.1.1 (hxs _) (fun z M' V S f => hQ z M' (h1.go V S f (by decide +kernel) (by decide +kernel) (by decide +kernel)))) kk
set_option maxRecDepth 100000 in
theorem lk_leaks (hz : lv_Z Z b n xs) (hT : lv_T b n L x m i) (hxs : ∀ k, mj_in (xs k)) (hI : lp_I G M x m tp s kp bc bt kc kr w) (kk : ∀ M2, lp_I G M2 x m tp s kp bc bt kc kr w → Z (mj_law.drop 777) L [] G M2 cb sb) : Z (mj_law.drop 464) L [] G M cb sb := lv_s0 (P := fun _ M1 => lw_V G M1 x m tp s kp ∧ M1.1 tp 1 = 0 ∧ lp_6 G M1 tp m bc bt ∧ M1.1 bc = M1.1 bt ∧ lp_R G M1 x m s kp kc kr w) (I := fun M2 => lp_I G M2 x m tp s kp bc bt kc kr w) (y1 := 132) (y2 := 210) hz hT hI.1.1.1.2.1.1 hI.1.1.1.2.1.2.1 rfl rfl
  (fun Q hQ => lc_X11_leaks (d := 9) hI.1.1.1 (fun z M' V e1 e2 f => hQ z M' ⟨V, e1, hI.1.2.1.go hI.1.1.1.2.1.2.2.1 hI.1.1.1.2.1.2.1 f (by decide +kernel), (lp_7.c hI.1.2.1.1 f (by decide +kernel)).trans (hI.1.2.2.trans (lp_7.t hI.1.2.1.2.1 f (by decide +kernel)).symm), hI.2.go hI.1.1.1.2.1 f (by decide +kernel)⟩))
  (fun z M1 h1 Q hQ => lc_X12_leaks (d := 9) h1.1 (fun z M' V e1 e2 f => hQ z M' ⟨⟨⟨V, by rw [e1, e2]; exact h1.2.1⟩, h1.2.2.1.go hI.1.1.1.2.1.2.2.1 hI.1.1.1.2.1.2.1 f (by decide +kernel), (lp_7.c hI.1.2.1.1 f (by decide +kernel)).trans (h1.2.2.2.1.trans (lp_7.t hI.1.2.1.2.1 f (by decide +kernel)).symm)⟩, h1.2.2.2.2.go hI.1.1.1.2.1 f (by decide +kernel)⟩)) kk
set_option maxRecDepth 100000 in
theorem lk_leak (hz : lv_Z Z b n xs) (hT : lv_T b n L x m i) (hxs : ∀ k, mj_in (xs k)) (hI : lp_I G M x m tp s kp bc bt kc kr w) (kk : ∀ M2, lp_I G M2 x m tp s kp bc bt kc kr w → Z (mj_law.drop 777) L [] G M2 cb sb) : Z (mj_law.drop 471) L [] G M cb sb := lv_s2 (P := fun _ M1 => lp_I G M1 x m tp s kp bc bt kc kr w) (I := fun M2 => lp_I G M2 x m tp s kp bc bt kc kr w) (y1 := 131) (y2 := 209) hz hT hI.1.1.1.2.1.1 hI.1.1.1.2.1.2.1 rfl rfl
  (fun Q hQ => lc_X11_leak (d := 9) hI.1.1.1 (hxs _) (hxs _) (fun z M' V S f => hQ z M' (hI.go V S f (by decide +kernel) (by decide +kernel) (by decide +kernel))))
  (fun z M1 h1 Q hQ => lc_X12_leak (d := 9) h1.1.1.1 (hxs _) (hxs _) (fun z M' V S f => hQ z M' (h1.go V S f (by decide +kernel) (by decide +kernel) (by decide +kernel)))) kk
set_option maxRecDepth 100000 in
theorem lk_wettest (hz : lv_Z Z b n xs) (hT : lv_T b n L x m i) (hxs : ∀ k, mj_in (xs k)) (hI : lp_I G M x m tp s kp bc bt kc kr w) (kk : ∀ M2, lp_I G M2 x m tp s kp bc bt kc kr w → Z (mj_law.drop 777) L [] G M2 cb sb) : Z (mj_law.drop 498) L [] G M cb sb := lv_s1 (P := fun _ M1 => lp_I G M1 x m tp s kp bc bt kc kr w) (I := fun M2 => lp_I G M2 x m tp s kp bc bt kc kr w) (y1 := 156) (y2 := 257) hz hT hI.1.1.1.2.1.1 hI.1.1.1.2.1.2.1 rfl rfl
  (fun Q hQ => lc_X11_wettest (d := 9) hI.1.1.1 (hxs _) (fun z M' V S f => hQ z M' (hI.go V S f (by decide +kernel) (by decide +kernel) (by decide +kernel))))
  (fun z M1 h1 Q hQ => lc_X12_wettest (d := 9) h1.1.1.1 (hxs _) (fun z M' V S f => hQ z M' (h1.go V S f (by decide +kernel) (by decide +kernel) (by decide +kernel)))) kk
set_option maxRecDepth 100000 in
theorem lk_enough (hz : lv_Z Z b n xs) (hT : lv_T b n L x m i) (hxs : ∀ k, mj_in (xs k)) (hI : lp_I G M x m tp s kp bc bt kc kr w) (kk : ∀ M2, lp_I G M2 x m tp s kp bc bt kc kr w → Z (mj_law.drop 777) L [] G M2 cb sb) : Z (mj_law.drop 515) L [] G M cb sb := lv_s1 (P := fun _ M1 => lp_I G M1 x m tp s kp bc bt kc kr w) (I := fun M2 => lp_I G M2 x m tp s kp bc bt kc kr w) (y1 := 122) (y2 := 185) hz hT hI.1.1.1.2.1.1 hI.1.1.1.2.1.2.1 rfl rfl
  (fun Q hQ => lc_X11_enough (d := 9) hI.1.1.1 (hxs _) (fun z M' V S f => hQ z M' (hI.go V S f (by decide +kernel) (by decide +kernel) (by decide +kernel))))
  (fun z M1 h1 Q hQ => lc_X12_enough (d := 9) h1.1.1.1 (hxs _) (fun z M' V S f => hQ z M' (h1.go V S f (by decide +kernel) (by decide +kernel) (by decide +kernel)))) kk
set_option maxRecDepth 100000 in
theorem lk_shoresOf (hz : lv_Z Z b n xs) (hT : lv_T b n L x m i) (hxs : ∀ k, mj_in (xs k)) (hI : lp_I G M x m tp s kp bc bt kc kr w) (kk : ∀ M2, lp_I G M2 x m tp s kp bc bt kc kr w → Z (mj_law.drop 777) L [] G M2 cb sb) : Z (mj_law.drop 532) L [] G M cb sb := lv_s0 (P := fun _ M1 => lp_I G M1 x m tp s kp bc bt kc kr w) (I := fun M2 => lp_I G M2 x m tp s kp bc bt kc kr w) (y1 := 149) (y2 := 241) hz hT hI.1.1.1.2.1.1 hI.1.1.1.2.1.2.1 rfl rfl
  (fun Q hQ => lc_X11_shoresOf (d := 9) hI.1.1.1 (fun z M' V S f => hQ z M' (hI.go V S f (by decide +kernel) (by decide +kernel) (by decide +kernel))))
  (fun z M1 h1 Q hQ => lc_X12_shoresOf (d := 9) h1.1.1.1 (fun z M' V S f => hQ z M' (h1.go V S f (by decide +kernel) (by decide +kernel) (by decide +kernel)))) kk
set_option maxRecDepth 100000 in
theorem lk_thirsty (hz : lv_Z Z b n xs) (hT : lv_T b n L x m i) (hxs : ∀ k, mj_in (xs k)) (hI : lp_I G M x m tp s kp bc bt kc kr w) (kk : ∀ M2, lp_I G M2 x m tp s kp bc bt kc kr w → Z (mj_law.drop 777) L [] G M2 cb sb) : Z (mj_law.drop 539) L [] G M cb sb := lv_s0 (P := fun _ M1 => lp_I G M1 x m tp s kp bc bt kc kr w) (I := fun M2 => lp_I G M2 x m tp s kp bc bt kc kr w) (y1 := 151) (y2 := 248) hz hT hI.1.1.1.2.1.1 hI.1.1.1.2.1.2.1 rfl rfl
  (fun Q hQ => lc_X11_thirsty (d := 9) hI.1.1.1 (fun z M' V S f => hQ z M' (hI.go V S f (by decide +kernel) (by decide +kernel) (by decide +kernel))))
  (fun z M1 h1 Q hQ => lc_X12_thirsty (d := 9) h1.1.1.1 (fun z M' V S f => hQ z M' (h1.go V S f (by decide +kernel) (by decide +kernel) (by decide +kernel)))) kk
set_option maxRecDepth 100000 in
theorem lk_bidsOf (hz : lv_Z Z b n xs) (hT : lv_T b n L x m i) (hxs : ∀ k, mj_in (xs k)) (hI : lp_I G M x m tp s kp bc bt kc kr w) (kk : ∀ M2, lp_I G M2 x m tp s kp bc bt kc kr w → Z (mj_law.drop 777) L [] G M2 cb sb) : Z (mj_law.drop 546) L [] G M cb sb := lv_s1 (P := fun _ M1 => lp_I G M1 x m tp s kp bc bt kc kr w) (I := fun M2 => lp_I G M2 x m tp s kp bc bt kc kr w) (y1 := 112) (y2 := 168) hz hT hI.1.1.1.2.1.1 hI.1.1.1.2.1.2.1 rfl rfl
  (fun Q hQ => lc_X11_bidsOf (d := 9) hI.1.1.1 (hxs _) (fun z M' V S f => hQ z M' (hI.go V S f (by decide +kernel) (by decide +kernel) (by decide +kernel))))
  (fun z M1 h1 Q hQ => lc_X12_bidsOf (d := 9) h1.1.1.1 (hxs _) (fun z M' V S f => hQ z M' (h1.go V S f (by decide +kernel) (by decide +kernel) (by decide +kernel)))) kk
set_option maxRecDepth 100000 in
theorem lk_greatest (hz : lv_Z Z b n xs) (hT : lv_T b n L x m i) (hxs : ∀ k, mj_in (xs k)) (hI : lp_I G M x m tp s kp bc bt kc kr w) (kk : ∀ M2, lp_I G M2 x m tp s kp bc bt kc kr w → Z (mj_law.drop 777) L [] G M2 cb sb) : Z (mj_law.drop 563) L [] G M cb sb := lv_s1 (P := fun _ M1 => lp_I G M1 x m tp s kp bc bt kc kr w) (I := fun M2 => lp_I G M2 x m tp s kp bc bt kc kr w) (y1 := 125) (y2 := 192) hz hT hI.1.1.1.2.1.1 hI.1.1.1.2.1.2.1 rfl rfl
  (fun Q hQ => lc_X11_greatest (d := 9) hI.1.1.1 (hxs _) (fun z M' V S f => hQ z M' (hI.go V S f (by decide +kernel) (by decide +kernel) (by decide +kernel))))
  (fun z M1 h1 Q hQ => lc_X12_greatest (d := 9) h1.1.1.1 (hxs _) (fun z M' V S f => hQ z M' (h1.go V S f (by decide +kernel) (by decide +kernel) (by decide +kernel)))) kk
set_option maxRecDepth 100000 in
theorem lk_write (hz : lv_Z Z b n xs) (hT : lv_T b n L x m i) (hxs : ∀ k, mj_in (xs k)) (hI : lp_I G M x m tp s kp bc bt kc kr w) (kk : ∀ M2, lp_I G M2 x m tp s kp bc bt kc kr w → Z (mj_law.drop 777) L [] G M2 cb sb) : Z (mj_law.drop 580) L [] G M cb sb := lv_s0 (P := fun _ M1 => lp_I G M1 x m tp s kp bc bt kc kr w) (I := fun M2 => lp_I G M2 x m tp s kp bc bt kc kr w) (y1 := 158) (y2 := 260) hz hT hI.1.1.1.2.1.1 hI.1.1.1.2.1.2.1 rfl rfl
  (fun Q hQ => lc_X11_write (d := 9) hI.1.1.1 (fun z M' V S f => hQ z M' (hI.go V S f (by decide +kernel) (by decide +kernel) (by decide +kernel))))
  (fun z M1 h1 Q hQ => lc_X12_write (d := 9) h1.1.1.1 (fun z M' V S f => hQ z M' (h1.go V S f (by decide +kernel) (by decide +kernel) (by decide +kernel)))) kk
set_option maxRecDepth 100000 in
theorem lk_byteAt (hz : lv_Z Z b n xs) (hT : lv_T b n L x m i) (hxs : ∀ k, mj_in (xs k)) (hI : lp_I G M x m tp s kp bc bt kc kr w) (kk : ∀ M2, lp_I G M2 x m tp s kp bc bt kc kr w → Z (mj_law.drop 777) L [] G M2 cb sb) : Z (mj_law.drop 587) L [] G M cb sb := lv_s1 (P := fun _ M1 => lp_I G M1 x m tp s kp bc bt kc kr w) (I := fun M2 => lp_I G M2 x m tp s kp bc bt kc kr w) (y1 := 113) (y2 := 170) hz hT hI.1.1.1.2.1.1 hI.1.1.1.2.1.2.1 rfl rfl
  (fun Q hQ => lc_X11_byteAt (d := 9) hI.1.1.1 (hxs _) (fun z M' V S f => hQ z M' (hI.go V S f (by decide +kernel) (by decide +kernel) (by decide +kernel))))
  (fun z M1 h1 Q hQ => lc_X12_byteAt (d := 9) h1.1.1.1 (hxs _) (fun z M' V S f => hQ z M' (h1.go V S f (by decide +kernel) (by decide +kernel) (by decide +kernel)))) kk
set_option maxRecDepth 100000 in
theorem lk_worth (hz : lv_Z Z b n xs) (hT : lv_T b n L x m i) (hxs : ∀ k, mj_in (xs k)) (hI : lp_I G M x m tp s kp bc bt kc kr w) (kk : ∀ M2, lp_I G M2 x m tp s kp bc bt kc kr w → Z (mj_law.drop 777) L [] G M2 cb sb) : Z (mj_law.drop 604) L [] G M cb sb := by
  refine lv_s1 (P := fun _ M1 => lp_I G M1 x m tp s kp bc bt kc kr w) (I := fun M2 => lp_I G M2 x m tp s kp bc bt kc kr w) (y1 := 157) (y2 := 259) hz hT hI.1.1.1.2.1.1 hI.1.1.1.2.1.2.1 rfl rfl ?_ ?_ kk
  · intro Q hQ
    refine lp_and lp_ok5.2.2.1 (lc_X11_worth (d := 9) (Q := fun r G' M' => ∃ z, r = some (.inl z) ∧ G' = G ∧ (lq_J G M' x s kp kc w → lp_I G M' x m tp s kp bc bt kc kr w) ∧ M'.1 s = M.1 s ∧ M'.1 kp = M.1 kp ∧ M'.1 kc = M.1 kc) hI.1.1.1 (hxs _) (fun z M' V S f => ⟨z, rfl, rfl, fun hJ => ⟨⟨⟨V, S.1.trans (hI.1.1.2.trans S.2.symm)⟩, hI.1.2.1.go hI.1.1.1.2.1.2.2.1 hI.1.1.1.2.1.2.1 f (by decide +kernel), (lp_7.c hI.1.2.1.1 f (by decide +kernel)).trans (hI.1.2.2.trans (lp_7.t hI.1.2.1.2.1 f (by decide +kernel)).symm)⟩, hI.2.1.fr hI.1.1.1.2.1.1 hI.1.1.1.2.1.2.1 f (by decide +kernel), lp_mk_go hI.2.2.1 hI.2.1.1 hI.2.1.2.1 f (by decide +kernel) (by decide +kernel), hJ, hI.2.2.2.2.1.ge hI.1.1.1.2.1.2.2.2.2 hI.2.1.2.1 f (by decide +kernel) (by decide +kernel) (lp_es2 hI.1.1.1.2.1.2.2.2.1 f (by decide +kernel)), hI.2.2.2.2.2.ge hI.1.1.1.2.1.1 hI.1.1.1.2.1.2.1 f (by decide +kernel) (lp_es2 hI.1.1.1.2.1.2.2.2.1 f (by decide +kernel))⟩, funext fun k => (f s k (by rw [hI.1.1.1.2.1.2.2.2.1]; exact hn_nt (by decide +kernel))).1, funext fun k => (f kp k (by rw [hI.1.1.1.2.1.2.2.2.2]; exact hn_nt (by decide +kernel))).1, funext fun k => (f kc k (by rw [hI.2.1.1]; exact hn_nt (by decide +kernel))).1⟩)) (lq_wor hI.1.1.1.1 hI.1.1.1.2.1.1 hI.2.2.2.1) (fun r G' M' h1 h2 => ?_)
    obtain ⟨z, rfl, rfl, gI, es, ek, ec⟩ := h1
    exact hQ z M' (gI (h2.2 es ek ec))
  · intro z M1 h1 Q hQ
    refine lp_and lp_ok6.2.2.2.2.1 (lc_X12_worth (d := 9) (Q := fun r G' M' => ∃ z, r = some (.inl z) ∧ G' = G ∧ ((∀ j, 88 ≤ j → j < 184 → M'.1 s j = M1.1 s j) → lp_I G M' x m tp s kp bc bt kc kr w)) h1.V (hxs _) (fun z M' V S f => ⟨z, rfl, rfl, fun e => h1.ge V S f (by decide +kernel) (by decide +kernel) (by decide +kernel) (lp_es h1.gs f (by decide +kernel) e)⟩)) (r_X12_worth5 h1.V.1 h1.gm h1.gs h1.m6 h1.b0 (Q := fun r G' M' => ∀ j, 88 ≤ j → j < 184 → M'.1 s j = M1.1 s j) (fun z M' e => e)) (fun r G' M' g1 g2 => ?_)
    obtain ⟨z2, rfl, rfl, gI⟩ := g1
    exact hQ z2 M' (gI g2)
set_option maxRecDepth 100000 in
theorem lk_drawn (hz : lv_Z Z b n xs) (hT : lv_T b n L x m i) (hxs : ∀ k, mj_in (xs k)) (hI : lp_I G M x m tp s kp bc bt kc kr w) (kk : ∀ M2, lp_I G M2 x m tp s kp bc bt kc kr w → Z (mj_law.drop 777) L [] G M2 cb sb) : Z (mj_law.drop 621) L [] G M cb sb := lv_s1 (P := fun _ M1 => lp_I G M1 x m tp s kp bc bt kc kr w) (I := fun M2 => lp_I G M2 x m tp s kp bc bt kc kr w) (y1 := 119) (y2 := 182) hz hT hI.1.1.1.2.1.1 hI.1.1.1.2.1.2.1 rfl rfl
  (fun Q hQ => lc_X11_drawn (d := 9) hI.1.1.1 (hxs _) (fun z M' V S f => hQ z M' (hI.go V S f (by decide +kernel) (by decide +kernel) (by decide +kernel))))
  (fun z M1 h1 Q hQ => lc_X12_drawn (d := 9) h1.1.1.1 (hxs _) (fun z M' V S f => hQ z M' (h1.go V S f (by decide +kernel) (by decide +kernel) (by decide +kernel)))) kk
set_option maxRecDepth 100000 in
theorem lk_shores (hz : lv_Z Z b n xs) (hT : lv_T b n L x m i) (hxs : ∀ k, mj_in (xs k)) (hI : lp_I G M x m tp s kp bc bt kc kr w) (kk : ∀ M2, lp_I G M2 x m tp s kp bc bt kc kr w → Z (mj_law.drop 777) L [] G M2 cb sb) : Z (mj_law.drop 638) L [] G M cb sb := lv_s3 (P := fun _ M1 => lp_I G M1 x m tp s kp bc bt kc kr w) (I := fun M2 => lp_I G M2 x m tp s kp bc bt kc kr w) (y1 := 148) (y2 := 240) hz hT hI.1.1.1.2.1.1 hI.1.1.1.2.1.2.1 rfl rfl
  (fun Q hQ => lc_X11_shores (d := 9) hI.1.1.1 (hxs _) (hxs _) (hxs _) (fun z M' V S f => hQ z M' (hI.go V S f (by decide +kernel) (by decide +kernel) (by decide +kernel))))
  (fun z M1 h1 Q hQ => lc_X12_shores (d := 9) h1.1.1.1 (hxs _) (hxs _) (hxs _) (fun z M' V S f => hQ z M' (h1.go V S f (by decide +kernel) (by decide +kernel) (by decide +kernel)))) kk
set_option maxRecDepth 100000 in
theorem lk_must (hz : lv_Z Z b n xs) (hT : lv_T b n L x m i) (hxs : ∀ k, mj_in (xs k)) (hI : lp_I G M x m tp s kp bc bt kc kr w) (kk : ∀ M2, lp_I G M2 x m tp s kp bc bt kc kr w → Z (mj_law.drop 777) L [] G M2 cb sb) : Z (mj_law.drop 675) L [] G M cb sb := by
  refine lv_s2 (P := fun _ M1 => lp_I G M1 x m tp s kp bc bt kc kr w) (I := fun M2 => lp_I G M2 x m tp s kp bc bt kc kr w) (y1 := 135) (y2 := 215) hz hT hI.1.1.1.2.1.1 hI.1.1.1.2.1.2.1 rfl rfl ?_ ?_ kk
  · intro Q hQ
    exact lc_X11_must (d := 9) hI.1.1.1 (hxs _) (hxs _) (fun z M' V S f => hQ z M' (hI.go V S f (by decide +kernel) (by decide +kernel) (by decide +kernel)))
  · intro z M1 h1 Q hQ
    refine lp_and lp_ok6.2.2.2.2.2 (lc_X12_must (d := 9) (Q := fun r G' M' => ∃ z, r = some (.inl z) ∧ G' = G ∧ ((∀ j, 88 ≤ j → j < 184 → M'.1 s j = M1.1 s j) → lp_I G M' x m tp s kp bc bt kc kr w)) h1.V (hxs _) (hxs _) (fun z M' V S f => ⟨z, rfl, rfl, fun e => h1.ge V S f (by decide +kernel) (by decide +kernel) (by decide +kernel) (lp_es h1.gs f (by decide +kernel) e)⟩)) (r_X12_must5 h1.V.1 h1.gm h1.gs h1.m6 h1.b0 (Q := fun r G' M' => ∀ j, 88 ≤ j → j < 184 → M'.1 s j = M1.1 s j) (fun z M' e => e)) (fun r G' M' g1 g2 => ?_)
    obtain ⟨z2, rfl, rfl, gI⟩ := g1
    exact hQ z2 M' (gI g2)
set_option maxRecDepth 100000 in
theorem lk_sentence (hz : lv_Z Z b n xs) (hT : lv_T b n L x m i) (hxs : ∀ k, mj_in (xs k)) (hI : lp_I G M x m tp s kp bc bt kc kr w) (kk : ∀ M2, lp_I G M2 x m tp s kp bc bt kc kr w → Z (mj_law.drop 777) L [] G M2 cb sb) : Z (mj_law.drop 702) L [] G M cb sb := lv_s0 (P := fun _ M1 => lw_V G M1 x m tp s kp ∧ M1.1 tp 1 = 0 ∧ lp_6 G M1 tp m bc bt ∧ M1.1 bc = M1.1 bt ∧ lp_R G M1 x m s kp kc kr w) (I := fun M2 => lp_I G M2 x m tp s kp bc bt kc kr w) (y1 := 147) (y2 := 239) hz hT hI.1.1.1.2.1.1 hI.1.1.1.2.1.2.1 rfl rfl
  (fun Q hQ => lc_X11_sentence (d := 9) hI.1.1.1 (fun z M' V e1 e2 f => hQ z M' ⟨V, e1, hI.1.2.1.go hI.1.1.1.2.1.2.2.1 hI.1.1.1.2.1.2.1 f (by decide +kernel), (lp_7.c hI.1.2.1.1 f (by decide +kernel)).trans (hI.1.2.2.trans (lp_7.t hI.1.2.1.2.1 f (by decide +kernel)).symm), hI.2.go hI.1.1.1.2.1 f (by decide +kernel)⟩))
  (fun z M1 h1 Q hQ => lc_X12_sentence (d := 9) h1.1 (fun z M' V e1 e2 f => hQ z M' ⟨⟨⟨V, by rw [e1, e2]; exact h1.2.1⟩, h1.2.2.1.go hI.1.1.1.2.1.2.2.1 hI.1.1.1.2.1.2.1 f (by decide +kernel), (lp_7.c hI.1.2.1.1 f (by decide +kernel)).trans (h1.2.2.2.1.trans (lp_7.t hI.1.2.1.2.1 f (by decide +kernel)).symm)⟩, h1.2.2.2.2.go hI.1.1.1.2.1 f (by decide +kernel)⟩)) kk
set_option maxRecDepth 100000 in
theorem lk_said (hz : lv_Z Z b n xs) (hT : lv_T b n L x m i) (hxs : ∀ k, mj_in (xs k)) (hI : lp_I G M x m tp s kp bc bt kc kr w) (kk : ∀ M2, lp_I G M2 x m tp s kp bc bt kc kr w → Z (mj_law.drop 777) L [] G M2 cb sb) : Z (mj_law.drop 709) L [] G M cb sb := lv_s1 (P := fun _ M1 => lp_I G M1 x m tp s kp bc bt kc kr w) (I := fun M2 => lp_I G M2 x m tp s kp bc bt kc kr w) (y1 := 146) (y2 := 238) hz hT hI.1.1.1.2.1.1 hI.1.1.1.2.1.2.1 rfl rfl
  (fun Q hQ => lc_X11_said (d := 9) hI.1.1.1 (hxs _) (fun z M' V S f => hQ z M' (hI.go V S f (by decide +kernel) (by decide +kernel) (by decide +kernel))))
  (fun z M1 h1 Q hQ => lc_X12_said (d := 9) h1.1.1.1 (fun z M' V S f => hQ z M' (h1.go V S f (by decide +kernel) (by decide +kernel) (by decide +kernel)))) kk
set_option maxRecDepth 100000 in
theorem lk_image (hz : lv_Z Z b n xs) (hT : lv_T b n L x m i) (hxs : ∀ k, mj_in (xs k)) (hI : lp_I G M x m tp s kp bc bt kc kr w) (kk : ∀ M2, lp_I G M2 x m tp s kp bc bt kc kr w → Z (mj_law.drop 777) L [] G M2 cb sb) : Z (mj_law.drop 726) L [] G M cb sb := by
  refine lv_s1 (P := fun _ M1 => lw_V G M1 x m tp s kp ∧ M1.1 tp 1 = M1.1 m 2 ∧ lp_6 G M1 tp m bc bt ∧ M1.1 bc = M1.1 bt ∧ lw_K G M1 x m kc kr ∧ lq_T M1 s kp kr ∧ lq_U G M1 x m s w ∧ lq_i G M1 x s kp kc kr w (xs (i + 1).toNat)) (I := fun M2 => lp_I G M2 x m tp s kp bc bt kc kr w) (y1 := 127) (y2 := 195) hz hT hI.1.1.1.2.1.1 hI.1.1.1.2.1.2.1 rfl rfl ?_ ?_ kk
  · intro Q hQ
    refine lp_and lp_ok5.1 (lc_X11_image (d := 9) (Q := fun r G' M' => ∃ z, r = some (.inl z) ∧ G' = G ∧ lw_V G M' x m tp s kp ∧ M'.1 tp 1 = M'.1 m 2 ∧ lp_6 G M' tp m bc bt ∧ M'.1 bc = M'.1 bt ∧ lw_K G M' x m kc kr ∧ lq_T M' s kp kr ∧ lq_U G M' x m s w) hI.1.1.1 (hxs _) (fun z M' V S f => ⟨z, rfl, rfl, V, S.1.trans (hI.1.1.2.trans S.2.symm), hI.1.2.1.go hI.1.1.1.2.1.2.2.1 hI.1.1.1.2.1.2.1 f (by decide +kernel), (lp_7.c hI.1.2.1.1 f (by decide +kernel)).trans (hI.1.2.2.trans (lp_7.t hI.1.2.1.2.1 f (by decide +kernel)).symm), hI.2.1.fr hI.1.1.1.2.1.1 hI.1.1.1.2.1.2.1 f (by decide +kernel), hI.2.2.2.2.1.ge hI.1.1.1.2.1.2.2.2.2 hI.2.1.2.1 f (by decide +kernel) (by decide +kernel) (lp_es2 hI.1.1.1.2.1.2.2.2.1 f (by decide +kernel)), hI.2.2.2.2.2.ge hI.1.1.1.2.1.1 hI.1.1.1.2.1.2.1 f (by decide +kernel) (lp_es2 hI.1.1.1.2.1.2.2.2.1 f (by decide +kernel))⟩)) (lq_img1 hI.1.1.1.1 hI.1.1.1.2.1.1 hI.1.1.1.2.1.2.2.2.1 hI.1.1.1.2.1.2.2.2.2 hI.2.1.2.2.1 hI.2.1.1 hI.2.1.2.1 hI.2.2.2.1 hI.2.2.1) (fun r G' M' h1 h2 => ?_)
    obtain ⟨z, rfl, rfl, V, e1, e6, eb, eK, eT, eU⟩ := h1
    exact hQ z M' ⟨V, e1, e6, eb, eK, eT, eU, h2.2⟩
  · intro z M1 h1 Q hQ
    obtain ⟨V, e1, e6, eb, eK, eT, eU, hi⟩ := h1
    refine lc_X12_image5 (d := 9) V hI.2.1.2.1 eK.2.2.2 (fun z2 M' V2 S f o => hQ z2 M' ?_)
    have hJ := lq_img2 hI.1.1.1.2.1.1 hI.1.1.1.2.1.2.2.2.1 hI.2.1.1 hi f (o.imp (fun a => ⟨a.1, a.2.2⟩) (fun ⟨k, a1, a2, _, a3⟩ => ⟨k, a1, a2, a3⟩))
    exact ⟨⟨⟨V2, S.1.trans (e1.trans S.2.symm)⟩, e6.go hI.1.1.1.2.1.2.2.1 hI.1.1.1.2.1.2.1 f (by decide +kernel), (lp_7.c hI.1.2.1.1 f (by decide +kernel)).trans (eb.trans (lp_7.t hI.1.2.1.2.1 f (by decide +kernel)).symm)⟩, eK.fr hI.1.1.1.2.1.1 hI.1.1.1.2.1.2.1 f (by decide +kernel), hJ.2, hJ.1, eT.img hI.1.1.1.2.1.2.2.2.1 f (o.imp (fun a => ⟨a.1, a.2.2⟩) (fun ⟨k, a1, a2, _, a3⟩ => ⟨k, a1, a2, a3⟩)), eU.ge hI.1.1.1.2.1.1 hI.1.1.1.2.1.2.1 f (by decide +kernel) (lp_es2 hI.1.1.1.2.1.2.2.2.1 f (by decide +kernel))⟩
set_option maxRecDepth 100000 in
theorem lk_restore (hz : lv_Z Z b n xs) (hT : lv_T b n L x m i) (hxs : ∀ k, mj_in (xs k)) (hI : lp_I G M x m tp s kp bc bt kc kr w) (kk : ∀ M2, lp_I G M2 x m tp s kp bc bt kc kr w → Z (mj_law.drop 777) L [] G M2 cb sb) : Z (mj_law.drop 743) L [] G M cb sb := by
  have hU0 := hI.2.2.2.2.2
  refine lv_s1 (P := fun _ M1 => lw_V G M1 x m tp s kp ∧ M1.1 tp 1 = M1.1 m 2 ∧ lp_6 G M1 tp m bc bt ∧ M1.1 bc = M1.1 bt ∧ lw_K G M1 x m kc kr ∧ lq_T M1 s kp kr ∧ lq_ur G M1 x m s kc w (xs (i + 1).toNat) ∧ lq_r G M1 x s kp kc kr w (xs (i + 1).toNat)) (I := fun M2 => lp_I G M2 x m tp s kp bc bt kc kr w) (y1 := 144) (y2 := 235) hz hT hI.1.1.1.2.1.1 hI.1.1.1.2.1.2.1 rfl rfl ?_ ?_ kk
  · intro Q hQ
    refine lp_and lp_ok5.2.1 (lc_X11_restore (d := 9) (Q := fun r G' M' => ∃ z, r = some (.inl z) ∧ G' = G ∧ lw_V G M' x m tp s kp ∧ M'.1 tp 1 = M'.1 m 2 ∧ lp_6 G M' tp m bc bt ∧ M'.1 bc = M'.1 bt ∧ lw_K G M' x m kc kr ∧ lq_T M' s kp kr ∧ (((∀ k : Nat, k < 2 → xs (i + 1).toNat = (k : Int) → M.1 kc k = 0) → M'.1 (w 121) = M.1 (w 121)) → (∀ k : Nat, k < 2 → xs (i + 1).toNat = (k : Int) → M.1 kc k ≠ 0 → M'.1 (w 121) 3 = 0) → lq_ur G M' x m s kc w (xs (i + 1).toNat))) hI.1.1.1 (hxs _) (fun z M' V S f => ⟨z, rfl, rfl, V, S.1.trans (hI.1.1.2.trans S.2.symm), hI.1.2.1.go hI.1.1.1.2.1.2.2.1 hI.1.1.1.2.1.2.1 f (by decide +kernel), (lp_7.c hI.1.2.1.1 f (by decide +kernel)).trans (hI.1.2.2.trans (lp_7.t hI.1.2.1.2.1 f (by decide +kernel)).symm), hI.2.1.fr hI.1.1.1.2.1.1 hI.1.1.1.2.1.2.1 f (by decide +kernel), hI.2.2.2.2.1.ge hI.1.1.1.2.1.2.2.2.2 hI.2.1.2.1 f (by decide +kernel) (by decide +kernel) (lp_es2 hI.1.1.1.2.1.2.2.2.1 f (by decide +kernel)), fun o1 o2 => lq_ur1 hU0 hI.1.1.1.2.1.1 hI.1.1.1.2.1.2.1 hI.1.1.1.2.1.2.2.2.1 hI.2.1.1 f (by decide +kernel) (by decide +kernel) o1 o2⟩)) (lq_rst1 hI.1.1.1.1 hI.1.1.1.2.1.1 hI.1.1.1.2.1.2.2.2.1 hI.1.1.1.2.1.2.2.2.2 hI.2.1.2.2.1 hI.2.1.1 hI.2.1.2.1 hU0.2.1.1 hU0.1.1 hI.2.2.2.1 hI.2.2.1) (fun r G' M' h1 h2 => ?_)
    obtain ⟨z, rfl, rfl, V, e1, e6, eb, eK, eT, eU⟩ := h1
    exact hQ z M' ⟨V, e1, e6, eb, eK, eT, eU h2.2.2.1 h2.2.2.2, h2.2.1⟩
  · intro z M1 h1 Q hQ
    obtain ⟨V, e1, e6, eb, eK, eT, eU, hi⟩ := h1
    refine lc_X12_restore6 (d := 9) V hI.2.1.2.1 eK.2.2.2 (fun z2 M' V2 S f o => hQ z2 M' ?_)
    have o' := o.imp (fun a => (⟨a.1, a.2.2.1⟩ : _ ∧ _)) (fun ⟨k, a1, a2, a3, _, a4, _⟩ => (⟨k, a1, a2, a3, a4⟩ : ∃ k : Nat, k ≤ 1 ∧ xs (i + 1).toNat = (k : Int) ∧ M1.1 kr k ≠ 0 ∧ ∀ p, p < 537 → M'.1 s p = M1.1 kp (538 * k + p)))
    have hJ := lq_rst2 hI.1.1.1.2.1.1 hI.1.1.1.2.1.2.2.2.2 hI.2.1.1 hI.2.1.2.1 hi f o'
    exact ⟨⟨⟨V2, S.1.trans (e1.trans S.2.symm)⟩, e6.go hI.1.1.1.2.1.2.2.1 hI.1.1.1.2.1.2.1 f (by decide +kernel), (lp_7.c hI.1.2.1.1 f (by decide +kernel)).trans (eb.trans (lp_7.t hI.1.2.1.2.1 f (by decide +kernel)).symm)⟩, eK.fr hI.1.1.1.2.1.1 hI.1.1.1.2.1.2.1 f (by decide +kernel), hJ.2, hJ.1, eT.rst hI.1.1.1.2.1.2.2.2.2 hI.2.1.2.1 f o', lq_ur2 eU hi.2.2.1 eT hI.1.1.1.2.1.1 hI.1.1.1.2.1.2.1 f (by decide +kernel) (by decide +kernel) (o.imp (fun a => ⟨a.1, a.2.2.1, a.2.2.2⟩) (fun ⟨k, a1, a2, a3, _, a4, a5⟩ => ⟨k, a1, a2, a3, a4, a5⟩))⟩
set_option maxRecDepth 100000 in
theorem lk_count (hz : lv_Z Z b n xs) (hT : lv_T b n L x m i) (hxs : ∀ k, mj_in (xs k)) (hI : lp_I G M x m tp s kp bc bt kc kr w) (kk : ∀ M2, lp_I G M2 x m tp s kp bc bt kc kr w → Z (mj_law.drop 777) L [] G M2 cb sb) : Z (mj_law.drop 760) L [] G M cb sb := lv_s1 (P := fun _ M1 => lp_I G M1 x m tp s kp bc bt kc kr w) (I := fun M2 => lp_I G M2 x m tp s kp bc bt kc kr w) (y1 := 118) (y2 := 179) hz hT hI.1.1.1.2.1.1 hI.1.1.1.2.1.2.1 rfl rfl
  (fun Q hQ => lc_X11_count (d := 9) hI.1.1.1 (hxs _) (fun z M' V S f => hQ z M' (hI.go V S f (by decide +kernel) (by decide +kernel) (by decide +kernel))))
  (fun z M1 h1 Q hQ => lc_X12_count (d := 9) h1.1.1.1 (hxs _) (fun z M' V S f => hQ z M' (h1.go V S f (by decide +kernel) (by decide +kernel) (by decide +kernel)))) kk
end LK
