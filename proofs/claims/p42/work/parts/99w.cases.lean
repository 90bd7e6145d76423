/-! ===== the law's cases (laid by a program) ===== -/
/-- the images' marks of both sides are alike -/
def lp_K (G : mj_G) (M : mj_M) (x m kc kr : Nat) : Prop := lw_K G M x m kc kr ∧ M.1 kc 0 = M.1 kr 0 ∧ M.1 kc 1 = M.1 kr 1
def lp_I (G : mj_G) (M : mj_M) (x m tp s kp kc kr : Nat) : Prop := lw_V G M x m tp s kp ∧ M.1 tp 1 = M.1 m 2 ∧ lp_K G M x m kc kr
def lp_kk (W : List (Nat × Nat × Nat)) : Bool := lw_kx W && (W.all (fun q => !(Nat.beq q.1 48102)) && W.all (fun q => !(Nat.beq q.1 72102)))
section LK
variable {Z : mj_S} {b n : Nat} {xs : Nat → Int} {L : mj_L} {G : mj_G} {M : mj_M} {cb sb x m tp s kp kc kr : Nat} {i : Int}
theorem lp_K.go {W : List (Nat × Nat × Nat)} {M' : mj_M} (hK : lp_K G M x m kc kr) (hx : G x = (1011, 0)) (hm : G m = (1012, 0)) (f : ab_frm W G M M') (hc : lp_kk W = true) : lp_K G M' x m kc kr := by
  obtain ⟨c1, hc⟩ := sx_nd hc
  obtain ⟨c2, c3⟩ := sx_nd hc
  refine ⟨hK.1.fr hx hm f c1, ?_, ?_⟩
  · rw [lw_kc hK.1.1 f c2, lw_kr hK.1.2.1 f c3]; exact hK.2.1
  · rw [lw_kc hK.1.1 f c2, lw_kr hK.1.2.1 f c3]; exact hK.2.2
theorem lp_I.go {W : List (Nat × Nat × Nat)} {M' : mj_M} (hI : lp_I G M x m tp s kp kc kr) (V : lw_V G M' x m tp s kp) (S : M'.1 tp 1 = M.1 tp 1 ∧ M'.1 m 2 = M.1 m 2) (f : ab_frm W G M M') (hc : lp_kk W = true) : lp_I G M' x m tp s kp kc kr := ⟨V, S.1.trans (hI.2.1.trans S.2.symm), hI.2.2.go hI.1.2.1.1 hI.1.2.1.2.1 f hc⟩
set_option maxRecDepth 100000 in
theorem lk_feed (hz : lv_Z Z b n xs) (hT : lv_T b n L x m i) (hxs : ∀ k, mj_in (xs k)) (hI : lp_I G M x m tp s kp kc kr) (kk : ∀ M2, lp_I G M2 x m tp s kp kc kr → Z (mj_law.drop 760) L [] G M2 cb sb) : Z (mj_law.drop 25) L [] G M cb sb := lv_s5 (P := fun z M1 => lw_V G M1 x m tp s kp ∧ lp_K G M1 x m kc kr ∧ M1.1 m 2 = M.1 tp 1 ∧ ((M.1 tp 1 ≤ 920 ∧ z = M.1 tp 1 + 20 ∧ M1.1 tp 1 = M.1 tp 1 + 20) ∨ (921 ≤ M.1 tp 1 ∧ z = -1 ∧ M1.1 tp 1 = M.1 tp 1))) (I := fun M2 => lp_I G M2 x m tp s kp kc kr) (y1 := 124) (y2 := 187) hz hT hI.1.2.1.1 hI.1.2.1.2.1 rfl rfl
  (fun Q hQ => lc_X11_feed (d := 9) hI.1 (hxs _) (hxs _) (hxs _) (hxs _) (hxs _) (fun h M' V e1 e2 f => hQ _ M' ⟨V, hI.2.2.go hI.1.2.1.1 hI.1.2.1.2.1 f (by decide +kernel), e2.trans hI.2.1.symm, Or.inl ⟨h, rfl, e1⟩⟩) (fun h M' V e1 e2 f => hQ _ M' ⟨V, hI.2.2.go hI.1.2.1.1 hI.1.2.1.2.1 f (by decide +kernel), e2.trans hI.2.1.symm, Or.inr ⟨h, rfl, e1⟩⟩))
  (fun z M1 h1 Q hQ => lc_X12_feed (d := 9) h1.1 (hxs _) (hxs _) (hxs _) (hxs _) (hxs _) (fun h M' V e1 e2 f => hQ _ M' (by have h2 := h1.2.2; exact ⟨V, by omega, h1.2.1.go hI.1.2.1.1 hI.1.2.1.2.1 f (by decide +kernel)⟩)) (fun h M' V e1 e2 f => hQ _ M' (by have h2 := h1.2.2; exact ⟨V, by omega, h1.2.1.go hI.1.2.1.1 hI.1.2.1.2.1 f (by decide +kernel)⟩))) kk
set_option maxRecDepth 100000 in
theorem lk_end (hz : lv_Z Z b n xs) (hT : lv_T b n L x m i) (hxs : ∀ k, mj_in (xs k)) (hI : lp_I G M x m tp s kp kc kr) (kk : ∀ M2, lp_I G M2 x m tp s kp kc kr → Z (mj_law.drop 760) L [] G M2 cb sb) : Z (mj_law.drop 82) L [] G M cb sb := lv_s1 (P := fun z M1 => lw_V G M1 x m tp s kp ∧ lp_K G M1 x m kc kr ∧ M1.1 m 2 = M.1 tp 1 ∧ (((xs (i + 1).toNat < 0 ∨ M.1 tp 1 < xs (i + 1).toNat) ∧ z = 0 ∧ M1.1 tp 1 = M.1 tp 1) ∨ (0 ≤ xs (i + 1).toNat ∧ xs (i + 1).toNat ≤ M.1 tp 1 ∧ z = 1 ∧ M1.1 tp 1 = xs (i + 1).toNat))) (I := fun M2 => lp_I G M2 x m tp s kp kc kr) (y1 := 121) (y2 := 184) hz hT hI.1.2.1.1 hI.1.2.1.2.1 rfl rfl
  (fun Q hQ => lc_X11_end (d := 9) hI.1 (hxs _) (fun h M' V e1 e2 f => hQ _ M' ⟨V, hI.2.2.go hI.1.2.1.1 hI.1.2.1.2.1 f (by decide +kernel), e2.trans hI.2.1.symm, Or.inl ⟨h, rfl, e1⟩⟩) (fun h h' M' V e1 e2 f => hQ _ M' ⟨V, hI.2.2.go hI.1.2.1.1 hI.1.2.1.2.1 f (by decide +kernel), e2.trans hI.2.1.symm, Or.inr ⟨h, h', rfl, e1⟩⟩))
  (fun z M1 h1 Q hQ => lc_X12_end (d := 9) h1.1 (hxs _) (fun h M' V e1 e2 f => hQ _ M' (by have h2 := h1.2.2; exact ⟨V, by omega, h1.2.1.go hI.1.2.1.1 hI.1.2.1.2.1 f (by decide +kernel)⟩)) (fun h h' M' V e1 e2 f => hQ _ M' (by have h2 := h1.2.2; exact ⟨V, by omega, h1.2.1.go hI.1.2.1.1 hI.1.2.1.2.1 f (by decide +kernel)⟩))) kk
set_option maxRecDepth 100000 in
theorem lk_plain (hz : lv_Z Z b n xs) (hT : lv_T b n L x m i) (hxs : ∀ k, mj_in (xs k)) (hI : lp_I G M x m tp s kp kc kr) (kk : ∀ M2, lp_I G M2 x m tp s kp kc kr → Z (mj_law.drop 760) L [] G M2 cb sb) : Z (mj_law.drop 99) L [] G M cb sb := lv_s0 (P := fun _ M1 => lw_V G M1 x m tp s kp ∧ M1.1 tp 1 = 0 ∧ lp_K G M1 x m kc kr) (I := fun M2 => lp_I G M2 x m tp s kp kc kr) (y1 := 138) (y2 := 226) hz hT hI.1.2.1.1 hI.1.2.1.2.1 rfl rfl
  (fun Q hQ => lc_X11_plain (d := 9) hI.1 (fun z M' V e1 e2 f => hQ z M' ⟨V, e1, hI.2.2.go hI.1.2.1.1 hI.1.2.1.2.1 f (by decide +kernel)⟩))
  (fun z M1 h1 Q hQ => lc_X12_plain (d := 9) h1.1 (fun z M' V e1 e2 f => hQ z M' ⟨V, by rw [e1, e2]; exact h1.2.1, h1.2.2.go hI.1.2.1.1 hI.1.2.1.2.1 f (by decide +kernel)⟩)) kk
set_option maxRecDepth 100000 in
theorem lk_fault (hz : lv_Z Z b n xs) (hT : lv_T b n L x m i) (hxs : ∀ k, mj_in (xs k)) (hI : lp_I G M x m tp s kp kc kr) (kk : ∀ M2, lp_I G M2 x m tp s kp kc kr → Z (mj_law.drop 760) L [] G M2 cb sb) : Z (mj_law.drop 106) L [] G M cb sb := lv_s0 (P := fun _ M1 => lp_I G M1 x m tp s kp kc kr) (I := fun M2 => lp_I G M2 x m tp s kp kc kr) (y1 := 123) (y2 := 186) hz hT hI.1.2.1.1 hI.1.2.1.2.1 rfl rfl
  (fun Q hQ => lc_X11_fault (d := 9) hI.1 (fun z M' V S f => hQ z M' (hI.go V S f (by decide +kernel))))
  (fun z M1 h1 Q hQ => lc_X12_fault (d := 9) h1.1 (fun z M' V S f => hQ z M' (h1.go V S f (by decide +kernel)))) kk
set_option maxRecDepth 100000 in
theorem lk_bid (hz : lv_Z Z b n xs) (hT : lv_T b n L x m i) (hxs : ∀ k, mj_in (xs k)) (hI : lp_I G M x m tp s kp kc kr) (kk : ∀ M2, lp_I G M2 x m tp s kp kc kr → Z (mj_law.drop 760) L [] G M2 cb sb) : Z (mj_law.drop 141) L [] G M cb sb := lv_s2 (P := fun _ M1 => lp_I G M1 x m tp s kp kc kr) (I := fun M2 => lp_I G M2 x m tp s kp kc kr) (y1 := 111) (y2 := 165) hz hT hI.1.2.1.1 hI.1.2.1.2.1 rfl rfl
  (fun Q hQ => lc_X11_bid (d := 9) hI.1 (hxs _) (hxs _) (fun z M' V S f => hQ z M' (hI.go V S f (by decide +kernel))))
  (fun z M1 h1 Q hQ => lc_X12_bid (d := 9) h1.1 (hxs _) (hxs _) (fun z M' V S f => hQ z M' (h1.go V S f (by decide +kernel)))) kk
set_option maxRecDepth 100000 in
theorem lk_offer (hz : lv_Z Z b n xs) (hT : lv_T b n L x m i) (hxs : ∀ k, mj_in (xs k)) (hI : lp_I G M x m tp s kp kc kr) (kk : ∀ M2, lp_I G M2 x m tp s kp kc kr → Z (mj_law.drop 760) L [] G M2 cb sb) : Z (mj_law.drop 168) L [] G M cb sb := lv_s3 (P := fun _ M1 => lp_I G M1 x m tp s kp kc kr) (I := fun M2 => lp_I G M2 x m tp s kp kc kr) (y1 := 136) (y2 := 220) hz hT hI.1.2.1.1 hI.1.2.1.2.1 rfl rfl
  (fun Q hQ => lc_X11_offer (d := 9) hI.1 (hxs _) (hxs _) (hxs _) (fun z M' V S f => hQ z M' (hI.go V S f (by decide +kernel))))
  (fun z M1 h1 Q hQ => lc_X12_offer (d := 9) h1.1 (hxs _) (hxs _) (hxs _) (fun z M' V S f => hQ z M' (h1.go V S f (by decide +kernel)))) kk
set_option maxRecDepth 100000 in
theorem lk_undo (hz : lv_Z Z b n xs) (hT : lv_T b n L x m i) (hxs : ∀ k, mj_in (xs k)) (hI : lp_I G M x m tp s kp kc kr) (kk : ∀ M2, lp_I G M2 x m tp s kp kc kr → Z (mj_law.drop 760) L [] G M2 cb sb) : Z (mj_law.drop 205) L [] G M cb sb := lv_s0 (P := fun _ M1 => lp_I G M1 x m tp s kp kc kr) (I := fun M2 => lp_I G M2 x m tp s kp kc kr) (y1 := 154) (y2 := 253) hz hT hI.1.2.1.1 hI.1.2.1.2.1 rfl rfl
  (fun Q hQ => lc_X11_undo (d := 9) hI.1 (fun z M' V S f => hQ z M' (hI.go V S f (by decide +kernel))))
  (fun z M1 h1 Q hQ => lc_X12_undo (d := 9) h1.1 (fun z M' V S f => hQ z M' (h1.go V S f (by decide +kernel)))) kk
set_option maxRecDepth 100000 in
theorem lk_water (hz : lv_Z Z b n xs) (hT : lv_T b n L x m i) (hxs : ∀ k, mj_in (xs k)) (hI : lp_I G M x m tp s kp kc kr) (kk : ∀ M2, lp_I G M2 x m tp s kp kc kr → Z (mj_law.drop 760) L [] G M2 cb sb) : Z (mj_law.drop 212) L [] G M cb sb := lv_s1 (P := fun _ M1 => lp_I G M1 x m tp s kp kc kr) (I := fun M2 => lp_I G M2 x m tp s kp kc kr) (y1 := 155) (y2 := 256) hz hT hI.1.2.1.1 hI.1.2.1.2.1 rfl rfl
  (fun Q hQ => lc_X11_water (d := 9) hI.1 (hxs _) (fun z M' V S f => hQ z M' (hI.go V S f (by decide +kernel))))
  (fun z M1 h1 Q hQ => lc_X12_water (d := 9) h1.1 (hxs _) (fun z M' V S f => hQ z M' (h1.go V S f (by decide +kernel)))) kk
set_option maxRecDepth 100000 in
theorem lk_contracts (hz : lv_Z Z b n xs) (hT : lv_T b n L x m i) (hxs : ∀ k, mj_in (xs k)) (hI : lp_I G M x m tp s kp kc kr) (kk : ∀ M2, lp_I G M2 x m tp s kp kc kr → Z (mj_law.drop 760) L [] G M2 cb sb) : Z (mj_law.drop 229) L [] G M cb sb := lv_s0 (P := fun _ M1 => lw_V G M1 x m tp s kp ∧ M1.1 tp 1 = 0 ∧ lp_K G M1 x m kc kr) (I := fun M2 => lp_I G M2 x m tp s kp kc kr) (y1 := 117) (y2 := 177) hz hT hI.1.2.1.1 hI.1.2.1.2.1 rfl rfl
  (fun Q hQ => lc_X11_contracts (d := 9) hI.1 (fun z M' V e1 e2 f => hQ z M' ⟨V, e1, hI.2.2.go hI.1.2.1.1 hI.1.2.1.2.1 f (by decide +kernel)⟩))
  (fun z M1 h1 Q hQ => lc_X12_contracts (d := 9) h1.1 (fun z M' V e1 e2 f => hQ z M' ⟨V, by rw [e1, e2]; exact h1.2.1, h1.2.2.go hI.1.2.1.1 hI.1.2.1.2.1 f (by decide +kernel)⟩)) kk
set_option maxRecDepth 100000 in
theorem lk_contract (hz : lv_Z Z b n xs) (hT : lv_T b n L x m i) (hxs : ∀ k, mj_in (xs k)) (hI : lp_I G M x m tp s kp kc kr) (kk : ∀ M2, lp_I G M2 x m tp s kp kc kr → Z (mj_law.drop 760) L [] G M2 cb sb) : Z (mj_law.drop 236) L [] G M cb sb := lv_s2 (P := fun _ M1 => lp_I G M1 x m tp s kp kc kr) (I := fun M2 => lp_I G M2 x m tp s kp kc kr) (y1 := 116) (y2 := 176) hz hT hI.1.2.1.1 hI.1.2.1.2.1 rfl rfl
  (fun Q hQ => lc_X11_contract (d := 9) hI.1 (hxs _) (hxs _) (fun z M' V S f => hQ z M' (hI.go V S f (by decide +kernel))))
  (fun z M1 h1 Q hQ => lc_X12_contract (d := 9) h1.1 (hxs _) (hxs _) (fun z M' V S f => hQ z M' (h1.go V S f (by decide +kernel)))) kk
set_option maxRecDepth 100000 in
theorem lk_begin (hz : lv_Z Z b n xs) (hT : lv_T b n L x m i) (hxs : ∀ k, mj_in (xs k)) (hI : lp_I G M x m tp s kp kc kr) (kk : ∀ M2, lp_I G M2 x m tp s kp kc kr → Z (mj_law.drop 760) L [] G M2 cb sb) : Z (mj_law.drop 263) L [] G M cb sb := lv_s0 (P := fun _ M1 => lp_I G M1 x m tp s kp kc kr) (I := fun M2 => lp_I G M2 x m tp s kp kc kr) (y1 := 110) (y2 := 162) hz hT hI.1.2.1.1 hI.1.2.1.2.1 rfl rfl
  (fun Q hQ => lc_X11_begin (d := 9) hI.1 (fun z M' V S f => hQ z M' (hI.go V S f (by decide +kernel))))
  (fun z M1 h1 Q hQ => lc_X12_begin (d := 9) h1.1 (fun z M' V S f => hQ z M' (h1.go V S f (by decide +kernel)))) kk
set_option maxRecDepth 100000 in
theorem lk_on (hz : lv_Z Z b n xs) (hT : lv_T b n L x m i) (hxs : ∀ k, mj_in (xs k)) (hI : lp_I G M x m tp s kp kc kr) (kk : ∀ M2, lp_I G M2 x m tp s kp kc kr → Z (mj_law.drop 760) L [] G M2 cb sb) : Z (mj_law.drop 270) L [] G M cb sb := lv_s1 (P := fun _ M1 => lp_I G M1 x m tp s kp kc kr) (I := fun M2 => lp_I G M2 x m tp s kp kc kr) (y1 := 137) (y2 := 221) hz hT hI.1.2.1.1 hI.1.2.1.2.1 rfl rfl
  (fun Q hQ => lc_X11_on (d := 9) hI.1 (hxs _) (fun z M' V S f => hQ z M' (hI.go V S f (by decide +kernel))))
  (fun z M1 h1 Q hQ => lc_X12_on (d := 9) h1.1 (hxs _) (fun z M' V S f => hQ z M' (h1.go V S f (by decide +kernel)))) kk
set_option maxRecDepth 100000 in
theorem lk_year (hz : lv_Z Z b n xs) (hT : lv_T b n L x m i) (hxs : ∀ k, mj_in (xs k)) (hI : lp_I G M x m tp s kp kc kr) (kk : ∀ M2, lp_I G M2 x m tp s kp kc kr → Z (mj_law.drop 760) L [] G M2 cb sb) : Z (mj_law.drop 287) L [] G M cb sb := lv_s1 (P := fun _ M1 => lp_I G M1 x m tp s kp kc kr) (I := fun M2 => lp_I G M2 x m tp s kp kc kr) (y1 := 159) (y2 := 261) hz hT hI.1.2.1.1 hI.1.2.1.2.1 rfl rfl
  (fun Q hQ => lc_X11_year (d := 9) hI.1 (hxs _) (fun z M' V S f => hQ z M' (hI.go V S f (by decide +kernel))))
  (fun z M1 h1 Q hQ => lc_X12_year (d := 9) h1.1 (hxs _) (fun z M' V S f => hQ z M' (h1.go V S f (by decide +kernel)))) kk
set_option maxRecDepth 100000 in
theorem lk_town (hz : lv_Z Z b n xs) (hT : lv_T b n L x m i) (hxs : ∀ k, mj_in (xs k)) (hI : lp_I G M x m tp s kp kc kr) (kk : ∀ M2, lp_I G M2 x m tp s kp kc kr → Z (mj_law.drop 760) L [] G M2 cb sb) : Z (mj_law.drop 304) L [] G M cb sb := lv_s2 (P := fun _ M1 => lp_I G M1 x m tp s kp kc kr) (I := fun M2 => lp_I G M2 x m tp s kp kc kr) (y1 := 152) (y2 := 252) hz hT hI.1.2.1.1 hI.1.2.1.2.1 rfl rfl
  (fun Q hQ => lc_X11_town (d := 9) hI.1 (hxs _) (hxs _) (fun z M' V S f => hQ z M' (hI.go V S f (by decide +kernel))))
  (fun z M1 h1 Q hQ => lc_X12_town (d := 9) h1.1 (hxs _) (hxs _) (fun z M' V S f => hQ z M' (h1.go V S f (by decide +kernel)))) kk
set_option maxRecDepth 100000 in
theorem lk_let (hz : lv_Z Z b n xs) (hT : lv_T b n L x m i) (hxs : ∀ k, mj_in (xs k)) (hI : lp_I G M x m tp s kp kc kr) (kk : ∀ M2, lp_I G M2 x m tp s kp kc kr → Z (mj_law.drop 760) L [] G M2 cb sb) : Z (mj_law.drop 331) L [] G M cb sb := lv_s2 (P := fun _ M1 => lp_I G M1 x m tp s kp kc kr) (I := fun M2 => lp_I G M2 x m tp s kp kc kr) (y1 := 133) (y2 := 211) hz hT hI.1.2.1.1 hI.1.2.1.2.1 rfl rfl
  (fun Q hQ => lc_X11_let (d := 9) hI.1 (hxs _) (hxs _) (fun z M' V S f => hQ z M' (hI.go V S f (by decide +kernel))))
  (fun z M1 h1 Q hQ => lc_X12_let (d := 9) h1.1 (hxs _) (hxs _) (fun z M' V S f => hQ z M' (h1.go V S f (by decide +kernel)))) kk
set_option maxRecDepth 100000 in
theorem lk_droughts (hz : lv_Z Z b n xs) (hT : lv_T b n L x m i) (hxs : ∀ k, mj_in (xs k)) (hI : lp_I G M x m tp s kp kc kr) (kk : ∀ M2, lp_I G M2 x m tp s kp kc kr → Z (mj_law.drop 760) L [] G M2 cb sb) : Z (mj_law.drop 358) L [] G M cb sb := lv_s0 (P := fun _ M1 => lp_I G M1 x m tp s kp kc kr) (I := fun M2 => lp_I G M2 x m tp s kp kc kr) (y1 := 120) (y2 := 183) hz hT hI.1.2.1.1 hI.1.2.1.2.1 rfl rfl
  (fun Q hQ => lc_X11_droughts (d := 9) hI.1 (fun z M' V S f => hQ z M' (hI.go V S f (by decide +kernel))))
  (fun z M1 h1 Q hQ => lc_X12_droughts (d := 9) h1.1 (fun z M' V S f => hQ z M' (h1.go V S f (by decide +kernel)))) kk
set_option maxRecDepth 100000 in
theorem lk_cheapest (hz : lv_Z Z b n xs) (hT : lv_T b n L x m i) (hxs : ∀ k, mj_in (xs k)) (hI : lp_I G M x m tp s kp kc kr) (kk : ∀ M2, lp_I G M2 x m tp s kp kc kr → Z (mj_law.drop 760) L [] G M2 cb sb) : Z (mj_law.drop 365) L [] G M cb sb := lv_s0 (P := fun _ M1 => lp_I G M1 x m tp s kp kc kr) (I := fun M2 => lp_I G M2 x m tp s kp kc kr) (y1 := 114) (y2 := 173) hz hT hI.1.2.1.1 hI.1.2.1.2.1 rfl rfl
  (fun Q hQ => lc_X11_cheapest (d := 9) hI.1 (fun z M' V S f => hQ z M' (hI.go V S f (by decide +kernel))))
  (fun z M1 h1 Q hQ => lc_X12_cheapest (d := 9) h1.1 (fun z M' V S f => hQ z M' (h1.go V S f (by decide +kernel)))) kk
set_option maxRecDepth 100000 in
theorem lk_plan (hz : lv_Z Z b n xs) (hT : lv_T b n L x m i) (hxs : ∀ k, mj_in (xs k)) (hI : lp_I G M x m tp s kp kc kr) (kk : ∀ M2, lp_I G M2 x m tp s kp kc kr → Z (mj_law.drop 760) L [] G M2 cb sb) : Z (mj_law.drop 372) L [] G M cb sb := lv_s1 (P := fun _ M1 => lp_I G M1 x m tp s kp kc kr) (I := fun M2 => lp_I G M2 x m tp s kp kc kr) (y1 := 139) (y2 := 227) hz hT hI.1.2.1.1 hI.1.2.1.2.1 rfl rfl
  (fun Q hQ => lc_X11_plan (d := 9) hI.1 (hxs _) (fun z M' V S f => hQ z M' (hI.go V S f (by decide +kernel))))
  (fun z M1 h1 Q hQ => lc_X12_plan (d := 9) h1.1 (hxs _) (fun z M' V S f => hQ z M' (h1.go V S f (by decide +kernel)))) kk
set_option maxRecDepth 100000 in
theorem lk_take (hz : lv_Z Z b n xs) (hT : lv_T b n L x m i) (hxs : ∀ k, mj_in (xs k)) (hI : lp_I G M x m tp s kp kc kr) (kk : ∀ M2, lp_I G M2 x m tp s kp kc kr → Z (mj_law.drop 760) L [] G M2 cb sb) : Z (mj_law.drop 389) L [] G M cb sb := lv_s0 (P := fun _ M1 => lp_I G M1 x m tp s kp kc kr) (I := fun M2 => lp_I G M2 x m tp s kp kc kr) (y1 := 150) (y2 := 244) hz hT hI.1.2.1.1 hI.1.2.1.2.1 rfl rfl
  (fun Q hQ => lc_X11_take (d := 9) hI.1 (fun z M' V S f => hQ z M' (hI.go V S f (by decide +kernel))))
  (fun z M1 h1 Q hQ => lc_X12_take (d := 9) h1.1 (fun z M' V S f => hQ z M' (h1.go V S f (by decide +kernel)))) kk
set_option maxRecDepth 100000 in
theorem lk_rounds (hz : lv_Z Z b n xs) (hT : lv_T b n L x m i) (hxs : ∀ k, mj_in (xs k)) (hI : lp_I G M x m tp s kp kc kr) (kk : ∀ M2, lp_I G M2 x m tp s kp kc kr → Z (mj_law.drop 760) L [] G M2 cb sb) : Z (mj_law.drop 396) L [] G M cb sb := lv_s1 (P := fun _ M1 => lp_I G M1 x m tp s kp kc kr) (I := fun M2 => lp_I G M2 x m tp s kp kc kr) (y1 := 145) (y2 := 236) hz hT hI.1.2.1.1 hI.1.2.1.2.1 rfl rfl
  (fun Q hQ => lc_X11_rounds (d := 9) hI.1 (hxs _) (fun z M' V S f => hQ z M' (hI.go V S f (by decide +kernel))))
  (fun z M1 h1 Q hQ => lc_X12_rounds (d := 9) h1.1 (hxs _) (fun z M' V S f => hQ z M' (h1.go V S f (by decide +kernel)))) kk
set_option maxRecDepth 100000 in
theorem lk_has (hz : lv_Z Z b n xs) (hT : lv_T b n L x m i) (hxs : ∀ k, mj_in (xs k)) (hI : lp_I G M x m tp s kp kc kr) (kk : ∀ M2, lp_I G M2 x m tp s kp kc kr → Z (mj_law.drop 760) L [] G M2 cb sb) : Z (mj_law.drop 413) L [] G M cb sb := lv_s1 (P := fun _ M1 => lp_I G M1 x m tp s kp kc kr) (I := fun M2 => lp_I G M2 x m tp s kp kc kr) (y1 := 126) (y2 := 193) hz hT hI.1.2.1.1 hI.1.2.1.2.1 rfl rfl
  (fun Q hQ => lc_X11_has (d := 9) hI.1 (hxs _) (fun z M' V S f => hQ z M' (hI.go V S f (by decide +kernel))))
  (fun z M1 h1 Q hQ => lc_X12_has (d := 9) h1.1 (hxs _) (fun z M' V S f => hQ z M' (h1.go V S f (by decide +kernel)))) kk
set_option maxRecDepth 100000 in
theorem lk_price (hz : lv_Z Z b n xs) (hT : lv_T b n L x m i) (hxs : ∀ k, mj_in (xs k)) (hI : lp_I G M x m tp s kp kc kr) (kk : ∀ M2, lp_I G M2 x m tp s kp kc kr → Z (mj_law.drop 760) L [] G M2 cb sb) : Z (mj_law.drop 430) L [] G M cb sb := lv_s1 (P := fun _ M1 => lp_I G M1 x m tp s kp kc kr) (I := fun M2 => lp_I G M2 x m tp s kp kc kr) (y1 := 140) (y2 := 228) hz hT hI.1.2.1.1 hI.1.2.1.2.1 rfl rfl
  (fun Q hQ => lc_X11_price (d := 9) hI.1 (hxs _) (fun z M' V S f => hQ z M' (hI.go V S f (by decide +kernel))))
  (fun z M1 h1 Q hQ => lc_X12_price (d := 9) h1.1 (hxs _) (fun z M' V S f => hQ z M' (h1.go V S f (by decide +kernel)))) kk
set_option maxRecDepth 100000 in
theorem lk_leaks (hz : lv_Z Z b n xs) (hT : lv_T b n L x m i) (hxs : ∀ k, mj_in (xs k)) (hI : lp_I G M x m tp s kp kc kr) (kk : ∀ M2, lp_I G M2 x m tp s kp kc kr → Z (mj_law.drop 760) L [] G M2 cb sb) : Z (mj_law.drop 447) L [] G M cb sb := lv_s0 (P := fun _ M1 => lw_V G M1 x m tp s kp ∧ M1.1 tp 1 = 0 ∧ lp_K G M1 x m kc kr) (I := fun M2 => lp_I G M2 x m tp s kp kc kr) (y1 := 132) (y2 := 210) hz hT hI.1.2.1.1 hI.1.2.1.2.1 rfl rfl
  (fun Q hQ => lc_X11_leaks (d := 9) hI.1 (fun z M' V e1 e2 f => hQ z M' ⟨V, e1, hI.2.2.go hI.1.2.1.1 hI.1.2.1.2.1 f (by decide +kernel)⟩))
  (fun z M1 h1 Q hQ => lc_X12_leaks (d := 9) h1.1 (fun z M' V e1 e2 f => hQ z M' ⟨V, by rw [e1, e2]; exact h1.2.1, h1.2.2.go hI.1.2.1.1 hI.1.2.1.2.1 f (by decide +kernel)⟩)) kk
set_option maxRecDepth 100000 in
theorem lk_leak (hz : lv_Z Z b n xs) (hT : lv_T b n L x m i) (hxs : ∀ k, mj_in (xs k)) (hI : lp_I G M x m tp s kp kc kr) (kk : ∀ M2, lp_I G M2 x m tp s kp kc kr → Z (mj_law.drop 760) L [] G M2 cb sb) : Z (mj_law.drop 454) L [] G M cb sb := lv_s2 (P := fun _ M1 => lp_I G M1 x m tp s kp kc kr) (I := fun M2 => lp_I G M2 x m tp s kp kc kr) (y1 := 131) (y2 := 209) hz hT hI.1.2.1.1 hI.1.2.1.2.1 rfl rfl
  (fun Q hQ => lc_X11_leak (d := 9) hI.1 (hxs _) (hxs _) (fun z M' V S f => hQ z M' (hI.go V S f (by decide +kernel))))
  (fun z M1 h1 Q hQ => lc_X12_leak (d := 9) h1.1 (hxs _) (hxs _) (fun z M' V S f => hQ z M' (h1.go V S f (by decide +kernel)))) kk
set_option maxRecDepth 100000 in
theorem lk_wettest (hz : lv_Z Z b n xs) (hT : lv_T b n L x m i) (hxs : ∀ k, mj_in (xs k)) (hI : lp_I G M x m tp s kp kc kr) (kk : ∀ M2, lp_I G M2 x m tp s kp kc kr → Z (mj_law.drop 760) L [] G M2 cb sb) : Z (mj_law.drop 481) L [] G M cb sb := lv_s1 (P := fun _ M1 => lp_I G M1 x m tp s kp kc kr) (I := fun M2 => lp_I G M2 x m tp s kp kc kr) (y1 := 156) (y2 := 257) hz hT hI.1.2.1.1 hI.1.2.1.2.1 rfl rfl
  (fun Q hQ => lc_X11_wettest (d := 9) hI.1 (hxs _) (fun z M' V S f => hQ z M' (hI.go V S f (by decide +kernel))))
  (fun z M1 h1 Q hQ => lc_X12_wettest (d := 9) h1.1 (hxs _) (fun z M' V S f => hQ z M' (h1.go V S f (by decide +kernel)))) kk
set_option maxRecDepth 100000 in
theorem lk_enough (hz : lv_Z Z b n xs) (hT : lv_T b n L x m i) (hxs : ∀ k, mj_in (xs k)) (hI : lp_I G M x m tp s kp kc kr) (kk : ∀ M2, lp_I G M2 x m tp s kp kc kr → Z (mj_law.drop 760) L [] G M2 cb sb) : Z (mj_law.drop 498) L [] G M cb sb := lv_s1 (P := fun _ M1 => lp_I G M1 x m tp s kp kc kr) (I := fun M2 => lp_I G M2 x m tp s kp kc kr) (y1 := 122) (y2 := 185) hz hT hI.1.2.1.1 hI.1.2.1.2.1 rfl rfl
  (fun Q hQ => lc_X11_enough (d := 9) hI.1 (hxs _) (fun z M' V S f => hQ z M' (hI.go V S f (by decide +kernel))))
  (fun z M1 h1 Q hQ => lc_X12_enough (d := 9) h1.1 (hxs _) (fun z M' V S f => hQ z M' (h1.go V S f (by decide +kernel)))) kk
set_option maxRecDepth 100000 in
theorem lk_shoresOf (hz : lv_Z Z b n xs) (hT : lv_T b n L x m i) (hxs : ∀ k, mj_in (xs k)) (hI : lp_I G M x m tp s kp kc kr) (kk : ∀ M2, lp_I G M2 x m tp s kp kc kr → Z (mj_law.drop 760) L [] G M2 cb sb) : Z (mj_law.drop 515) L [] G M cb sb := lv_s0 (P := fun _ M1 => lp_I G M1 x m tp s kp kc kr) (I := fun M2 => lp_I G M2 x m tp s kp kc kr) (y1 := 149) (y2 := 241) hz hT hI.1.2.1.1 hI.1.2.1.2.1 rfl rfl
  (fun Q hQ => lc_X11_shoresOf (d := 9) hI.1 (fun z M' V S f => hQ z M' (hI.go V S f (by decide +kernel))))
  (fun z M1 h1 Q hQ => lc_X12_shoresOf (d := 9) h1.1 (fun z M' V S f => hQ z M' (h1.go V S f (by decide +kernel)))) kk
set_option maxRecDepth 100000 in
theorem lk_thirsty (hz : lv_Z Z b n xs) (hT : lv_T b n L x m i) (hxs : ∀ k, mj_in (xs k)) (hI : lp_I G M x m tp s kp kc kr) (kk : ∀ M2, lp_I G M2 x m tp s kp kc kr → Z (mj_law.drop 760) L [] G M2 cb sb) : Z (mj_law.drop 522) L [] G M cb sb := lv_s0 (P := fun _ M1 => lp_I G M1 x m tp s kp kc kr) (I := fun M2 => lp_I G M2 x m tp s kp kc kr) (y1 := 151) (y2 := 248) hz hT hI.1.2.1.1 hI.1.2.1.2.1 rfl rfl
  (fun Q hQ => lc_X11_thirsty (d := 9) hI.1 (fun z M' V S f => hQ z M' (hI.go V S f (by decide +kernel))))
  (fun z M1 h1 Q hQ => lc_X12_thirsty (d := 9) h1.1 (fun z M' V S f => hQ z M' (h1.go V S f (by decide +kernel)))) kk
set_option maxRecDepth 100000 in
theorem lk_bidsOf (hz : lv_Z Z b n xs) (hT : lv_T b n L x m i) (hxs : ∀ k, mj_in (xs k)) (hI : lp_I G M x m tp s kp kc kr) (kk : ∀ M2, lp_I G M2 x m tp s kp kc kr → Z (mj_law.drop 760) L [] G M2 cb sb) : Z (mj_law.drop 529) L [] G M cb sb := lv_s1 (P := fun _ M1 => lp_I G M1 x m tp s kp kc kr) (I := fun M2 => lp_I G M2 x m tp s kp kc kr) (y1 := 112) (y2 := 168) hz hT hI.1.2.1.1 hI.1.2.1.2.1 rfl rfl
  (fun Q hQ => lc_X11_bidsOf (d := 9) hI.1 (hxs _) (fun z M' V S f => hQ z M' (hI.go V S f (by decide +kernel))))
  (fun z M1 h1 Q hQ => lc_X12_bidsOf (d := 9) h1.1 (hxs _) (fun z M' V S f => hQ z M' (h1.go V S f (by decide +kernel)))) kk
set_option maxRecDepth 100000 in
theorem lk_greatest (hz : lv_Z Z b n xs) (hT : lv_T b n L x m i) (hxs : ∀ k, mj_in (xs k)) (hI : lp_I G M x m tp s kp kc kr) (kk : ∀ M2, lp_I G M2 x m tp s kp kc kr → Z (mj_law.drop 760) L [] G M2 cb sb) : Z (mj_law.drop 546) L [] G M cb sb := lv_s1 (P := fun _ M1 => lp_I G M1 x m tp s kp kc kr) (I := fun M2 => lp_I G M2 x m tp s kp kc kr) (y1 := 125) (y2 := 192) hz hT hI.1.2.1.1 hI.1.2.1.2.1 rfl rfl
  (fun Q hQ => lc_X11_greatest (d := 9) hI.1 (hxs _) (fun z M' V S f => hQ z M' (hI.go V S f (by decide +kernel))))
  (fun z M1 h1 Q hQ => lc_X12_greatest (d := 9) h1.1 (hxs _) (fun z M' V S f => hQ z M' (h1.go V S f (by decide +kernel)))) kk
set_option maxRecDepth 100000 in
theorem lk_write (hz : lv_Z Z b n xs) (hT : lv_T b n L x m i) (hxs : ∀ k, mj_in (xs k)) (hI : lp_I G M x m tp s kp kc kr) (kk : ∀ M2, lp_I G M2 x m tp s kp kc kr → Z (mj_law.drop 760) L [] G M2 cb sb) : Z (mj_law.drop 563) L [] G M cb sb := lv_s0 (P := fun _ M1 => lp_I G M1 x m tp s kp kc kr) (I := fun M2 => lp_I G M2 x m tp s kp kc kr) (y1 := 158) (y2 := 260) hz hT hI.1.2.1.1 hI.1.2.1.2.1 rfl rfl
  (fun Q hQ => lc_X11_write (d := 9) hI.1 (fun z M' V S f => hQ z M' (hI.go V S f (by decide +kernel))))
  (fun z M1 h1 Q hQ => lc_X12_write (d := 9) h1.1 (fun z M' V S f => hQ z M' (h1.go V S f (by decide +kernel)))) kk
set_option maxRecDepth 100000 in
theorem lk_byteAt (hz : lv_Z Z b n xs) (hT : lv_T b n L x m i) (hxs : ∀ k, mj_in (xs k)) (hI : lp_I G M x m tp s kp kc kr) (kk : ∀ M2, lp_I G M2 x m tp s kp kc kr → Z (mj_law.drop 760) L [] G M2 cb sb) : Z (mj_law.drop 570) L [] G M cb sb := lv_s1 (P := fun _ M1 => lp_I G M1 x m tp s kp kc kr) (I := fun M2 => lp_I G M2 x m tp s kp kc kr) (y1 := 113) (y2 := 170) hz hT hI.1.2.1.1 hI.1.2.1.2.1 rfl rfl
  (fun Q hQ => lc_X11_byteAt (d := 9) hI.1 (hxs _) (fun z M' V S f => hQ z M' (hI.go V S f (by decide +kernel))))
  (fun z M1 h1 Q hQ => lc_X12_byteAt (d := 9) h1.1 (hxs _) (fun z M' V S f => hQ z M' (h1.go V S f (by decide +kernel)))) kk
set_option maxRecDepth 100000 in
theorem lk_worth (hz : lv_Z Z b n xs) (hT : lv_T b n L x m i) (hxs : ∀ k, mj_in (xs k)) (hI : lp_I G M x m tp s kp kc kr) (kk : ∀ M2, lp_I G M2 x m tp s kp kc kr → Z (mj_law.drop 760) L [] G M2 cb sb) : Z (mj_law.drop 587) L [] G M cb sb := lv_s1 (P := fun _ M1 => lp_I G M1 x m tp s kp kc kr) (I := fun M2 => lp_I G M2 x m tp s kp kc kr) (y1 := 157) (y2 := 259) hz hT hI.1.2.1.1 hI.1.2.1.2.1 rfl rfl
  (fun Q hQ => lc_X11_worth (d := 9) hI.1 (hxs _) (fun z M' V S f => hQ z M' (hI.go V S f (by decide +kernel))))
  (fun z M1 h1 Q hQ => lc_X12_worth (d := 9) h1.1 (hxs _) (fun z M' V S f => hQ z M' (h1.go V S f (by decide +kernel)))) kk
set_option maxRecDepth 100000 in
theorem lk_drawn (hz : lv_Z Z b n xs) (hT : lv_T b n L x m i) (hxs : ∀ k, mj_in (xs k)) (hI : lp_I G M x m tp s kp kc kr) (kk : ∀ M2, lp_I G M2 x m tp s kp kc kr → Z (mj_law.drop 760) L [] G M2 cb sb) : Z (mj_law.drop 604) L [] G M cb sb := lv_s1 (P := fun _ M1 => lp_I G M1 x m tp s kp kc kr) (I := fun M2 => lp_I G M2 x m tp s kp kc kr) (y1 := 119) (y2 := 182) hz hT hI.1.2.1.1 hI.1.2.1.2.1 rfl rfl
  (fun Q hQ => lc_X11_drawn (d := 9) hI.1 (hxs _) (fun z M' V S f => hQ z M' (hI.go V S f (by decide +kernel))))
  (fun z M1 h1 Q hQ => lc_X12_drawn (d := 9) h1.1 (hxs _) (fun z M' V S f => hQ z M' (h1.go V S f (by decide +kernel)))) kk
set_option maxRecDepth 100000 in
theorem lk_shores (hz : lv_Z Z b n xs) (hT : lv_T b n L x m i) (hxs : ∀ k, mj_in (xs k)) (hI : lp_I G M x m tp s kp kc kr) (kk : ∀ M2, lp_I G M2 x m tp s kp kc kr → Z (mj_law.drop 760) L [] G M2 cb sb) : Z (mj_law.drop 621) L [] G M cb sb := lv_s3 (P := fun _ M1 => lp_I G M1 x m tp s kp kc kr) (I := fun M2 => lp_I G M2 x m tp s kp kc kr) (y1 := 148) (y2 := 240) hz hT hI.1.2.1.1 hI.1.2.1.2.1 rfl rfl
  (fun Q hQ => lc_X11_shores (d := 9) hI.1 (hxs _) (hxs _) (hxs _) (fun z M' V S f => hQ z M' (hI.go V S f (by decide +kernel))))
  (fun z M1 h1 Q hQ => lc_X12_shores (d := 9) h1.1 (hxs _) (hxs _) (hxs _) (fun z M' V S f => hQ z M' (h1.go V S f (by decide +kernel)))) kk
set_option maxRecDepth 100000 in
theorem lk_must (hz : lv_Z Z b n xs) (hT : lv_T b n L x m i) (hxs : ∀ k, mj_in (xs k)) (hI : lp_I G M x m tp s kp kc kr) (kk : ∀ M2, lp_I G M2 x m tp s kp kc kr → Z (mj_law.drop 760) L [] G M2 cb sb) : Z (mj_law.drop 658) L [] G M cb sb := lv_s2 (P := fun _ M1 => lp_I G M1 x m tp s kp kc kr) (I := fun M2 => lp_I G M2 x m tp s kp kc kr) (y1 := 135) (y2 := 215) hz hT hI.1.2.1.1 hI.1.2.1.2.1 rfl rfl
  (fun Q hQ => lc_X11_must (d := 9) hI.1 (hxs _) (hxs _) (fun z M' V S f => hQ z M' (hI.go V S f (by decide +kernel))))
  (fun z M1 h1 Q hQ => lc_X12_must (d := 9) h1.1 (hxs _) (hxs _) (fun z M' V S f => hQ z M' (h1.go V S f (by decide +kernel)))) kk
set_option maxRecDepth 100000 in
theorem lk_sentence (hz : lv_Z Z b n xs) (hT : lv_T b n L x m i) (hxs : ∀ k, mj_in (xs k)) (hI : lp_I G M x m tp s kp kc kr) (kk : ∀ M2, lp_I G M2 x m tp s kp kc kr → Z (mj_law.drop 760) L [] G M2 cb sb) : Z (mj_law.drop 685) L [] G M cb sb := lv_s0 (P := fun _ M1 => lw_V G M1 x m tp s kp ∧ M1.1 tp 1 = 0 ∧ lp_K G M1 x m kc kr) (I := fun M2 => lp_I G M2 x m tp s kp kc kr) (y1 := 147) (y2 := 239) hz hT hI.1.2.1.1 hI.1.2.1.2.1 rfl rfl
  (fun Q hQ => lc_X11_sentence (d := 9) hI.1 (fun z M' V e1 e2 f => hQ z M' ⟨V, e1, hI.2.2.go hI.1.2.1.1 hI.1.2.1.2.1 f (by decide +kernel)⟩))
  (fun z M1 h1 Q hQ => lc_X12_sentence (d := 9) h1.1 (fun z M' V e1 e2 f => hQ z M' ⟨V, by rw [e1, e2]; exact h1.2.1, h1.2.2.go hI.1.2.1.1 hI.1.2.1.2.1 f (by decide +kernel)⟩)) kk
set_option maxRecDepth 100000 in
theorem lk_said (hz : lv_Z Z b n xs) (hT : lv_T b n L x m i) (hxs : ∀ k, mj_in (xs k)) (hI : lp_I G M x m tp s kp kc kr) (kk : ∀ M2, lp_I G M2 x m tp s kp kc kr → Z (mj_law.drop 760) L [] G M2 cb sb) : Z (mj_law.drop 692) L [] G M cb sb := lv_s1 (P := fun _ M1 => lp_I G M1 x m tp s kp kc kr) (I := fun M2 => lp_I G M2 x m tp s kp kc kr) (y1 := 146) (y2 := 238) hz hT hI.1.2.1.1 hI.1.2.1.2.1 rfl rfl
  (fun Q hQ => lc_X11_said (d := 9) hI.1 (hxs _) (fun z M' V S f => hQ z M' (hI.go V S f (by decide +kernel))))
  (fun z M1 h1 Q hQ => lc_X12_said (d := 9) h1.1 (fun z M' V S f => hQ z M' (h1.go V S f (by decide +kernel)))) kk
set_option maxRecDepth 100000 in
theorem lk_image (hz : lv_Z Z b n xs) (hT : lv_T b n L x m i) (hxs : ∀ k, mj_in (xs k)) (hI : lp_I G M x m tp s kp kc kr) (kk : ∀ M2, lp_I G M2 x m tp s kp kc kr → Z (mj_law.drop 760) L [] G M2 cb sb) : Z (mj_law.drop 709) L [] G M cb sb := by
  refine lv_s1 (P := fun z M1 => lw_V G M1 x m tp s kp ∧ M1.1 tp 1 = M1.1 m 2 ∧ lw_K G M1 x m kc kr ∧ ((¬ (0 ≤ xs (i + 1).toNat ∧ xs (i + 1).toNat ≤ 1) ∧ z = 0 ∧ M1.1 kc 0 = M1.1 kr 0 ∧ M1.1 kc 1 = M1.1 kr 1) ∨ (xs (i + 1).toNat = 0 ∧ z = 1 ∧ M1.1 kc 0 = 1 ∧ M1.1 kc 1 = M1.1 kr 1) ∨ (xs (i + 1).toNat = 1 ∧ z = 1 ∧ M1.1 kc 0 = M1.1 kr 0 ∧ M1.1 kc 1 = 1))) (I := fun M2 => lp_I G M2 x m tp s kp kc kr) (y1 := 127) (y2 := 195) hz hT hI.1.2.1.1 hI.1.2.1.2.1 rfl rfl ?_ ?_ kk
  · intro Q hQ
    refine lc_X11_image2 (d := 9) hI.1 (hxs _) hI.2.2.1.1 hI.2.2.1.2.2.1 (fun z M' V S f hc => hQ z M' ⟨V, S.1.trans (hI.2.1.trans S.2.symm), hI.2.2.1.fr hI.1.2.1.1 hI.1.2.1.2.1 f (by decide +kernel), ?_⟩)
    have k0 := lw_kr hI.2.2.1.2.1 f (by decide +kernel) 0
    have k1 := lw_kr hI.2.2.1.2.1 f (by decide +kernel) 1
    have e0 := hI.2.2.2.1
    have e1 := hI.2.2.2.2
    omega
  · intro z M1 h1 Q hQ
    refine lc_X12_image (d := 9) h1.1 h1.2.2.1.2.1 h1.2.2.1.2.2.2 (fun z2 M' V S f hc => hQ z2 M' ?_)
    have k0 := lw_kc h1.2.2.1.1 f (by decide +kernel) 0
    have k1 := lw_kc h1.2.2.1.1 f (by decide +kernel) 1
    have hk : lw_K G M' x m kc kr := h1.2.2.1.fr hI.1.2.1.1 hI.1.2.1.2.1 f (by decide +kernel)
    have hs : M'.1 tp 1 = M'.1 m 2 := S.1.trans (h1.2.1.trans S.2.symm)
    rcases h1.2.2.2 with ⟨c1, c2, c3, c4⟩ | ⟨c1, c2, c3, c4⟩ | ⟨c1, c2, c3, c4⟩
    · rcases hc with ⟨d1, d2, d3⟩ | ⟨d1, d2, -⟩
      · exact ⟨V, hs, hk, by rw [k0, d3 0]; exact c3, by rw [k1, d3 1]; exact c4⟩
      · exact absurd ⟨d1, d2⟩ c1
    · rw [c1] at hc
      rcases hc with ⟨d1, -⟩ | ⟨-, -, d2, d3, d4⟩
      · exact absurd ⟨by decide, by decide⟩ d1
      · exact ⟨V, hs, hk, by rw [k0, c3]; exact d3.symm, by rw [k1, d4 1 (by decide)]; exact c4⟩
    · rw [c1] at hc
      rcases hc with ⟨d1, -⟩ | ⟨-, -, d2, d3, d4⟩
      · exact absurd ⟨by decide, by decide⟩ d1
      · exact ⟨V, hs, hk, by rw [k0, d4 0 (by decide)]; exact c3, by rw [k1, c4]; exact d3.symm⟩
set_option maxRecDepth 100000 in
theorem lk_restore (hz : lv_Z Z b n xs) (hT : lv_T b n L x m i) (hxs : ∀ k, mj_in (xs k)) (hI : lp_I G M x m tp s kp kc kr) (kk : ∀ M2, lp_I G M2 x m tp s kp kc kr → Z (mj_law.drop 760) L [] G M2 cb sb) : Z (mj_law.drop 726) L [] G M cb sb := by
  refine lv_q1 (P := fun z M1 => lp_I G M1 x m tp s kp kc kr ∧ ((((¬ (0 ≤ xs (i + 1).toNat ∧ xs (i + 1).toNat ≤ 1)) ∨ (xs (i + 1).toNat = 0 ∧ M1.1 kc 0 = 0) ∨ (xs (i + 1).toNat = 1 ∧ M1.1 kc 1 = 0)) ∧ z = 0) ∨ (((xs (i + 1).toNat = 0 ∧ M1.1 kc 0 = 1) ∨ (xs (i + 1).toNat = 1 ∧ M1.1 kc 1 = 1)) ∧ z = 1))) (I := fun M2 => lp_I G M2 x m tp s kp kc kr) (y1 := 144) (y2 := 235) hz hT hI.1.2.1.1 hI.1.2.1.2.1 rfl rfl ?_ ?_ kk
  · intro Q hQ
    refine lc_X11_restore2 (d := 9) hI.1 (hxs _) hI.2.2.1.1 hI.2.2.1.2.2.1 (fun z M' V S f hc => hQ z M' ⟨hI.go V S f (by decide +kernel), ?_⟩)
    rw [lw_kc hI.2.2.1.1 f (by decide +kernel) 0, lw_kc hI.2.2.1.1 f (by decide +kernel) 1]
    exact hc
  · intro z M1 h1 Q hQ
    have e0 := h1.1.2.2.2.1
    have e1 := h1.1.2.2.2.2
    refine lc_X12_restore (d := 9) h1.1.1 h1.1.2.2.1.2.1 h1.1.2.2.1.2.2.2 (fun z2 M' V S f hc => hQ z2 M' ⟨?_, h1.1.go V S f (by decide +kernel)⟩)
    rcases h1.2 with ⟨c1, c2⟩ | ⟨c1, c2⟩
    · rcases c1 with c1 | ⟨c1, c3⟩ | ⟨c1, c3⟩
      · rcases hc with ⟨-, d⟩ | ⟨d1, d2, -⟩
        · exact d.trans c2.symm
        · exact absurd ⟨d1, d2⟩ c1
      · rcases hc with ⟨-, d⟩ | ⟨-, -, d, -⟩
        · exact d.trans c2.symm
        · rw [c1] at d
          exact absurd (e0.symm.trans c3) d
      · rcases hc with ⟨-, d⟩ | ⟨-, -, d, -⟩
        · exact d.trans c2.symm
        · rw [c1] at d
          exact absurd (e1.symm.trans c3) d
    · rcases c1 with ⟨c1, c3⟩ | ⟨c1, c3⟩
      · rcases hc with ⟨d1 | d1, -⟩ | ⟨-, -, -, d⟩
        · rw [c1] at d1
          exact absurd ⟨by decide, by decide⟩ d1
        · rw [c1] at d1
          have d1 : M1.1 kr 0 = 0 := d1
          omega
        · exact d.trans c2.symm
      · rcases hc with ⟨d1 | d1, -⟩ | ⟨-, -, -, d⟩
        · rw [c1] at d1
          exact absurd ⟨by decide, by decide⟩ d1
        · rw [c1] at d1
          have d1 : M1.1 kr 1 = 0 := d1
          omega
        · exact d.trans c2.symm
set_option maxRecDepth 100000 in
theorem lk_count (hz : lv_Z Z b n xs) (hT : lv_T b n L x m i) (hxs : ∀ k, mj_in (xs k)) (hI : lp_I G M x m tp s kp kc kr) (kk : ∀ M2, lp_I G M2 x m tp s kp kc kr → Z (mj_law.drop 760) L [] G M2 cb sb) : Z (mj_law.drop 743) L [] G M cb sb := lv_s1 (P := fun _ M1 => lp_I G M1 x m tp s kp kc kr) (I := fun M2 => lp_I G M2 x m tp s kp kc kr) (y1 := 118) (y2 := 179) hz hT hI.1.2.1.1 hI.1.2.1.2.1 rfl rfl
  (fun Q hQ => lc_X11_count (d := 9) hI.1 (hxs _) (fun z M' V S f => hQ z M' (hI.go V S f (by decide +kernel))))
  (fun z M1 h1 Q hQ => lc_X12_count (d := 9) h1.1 (hxs _) (fun z M' V S f => hQ z M' (h1.go V S f (by decide +kernel)))) kk
end LK
