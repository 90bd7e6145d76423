/-! ===== the law's cases (laid by a program) ===== -/
def lp_I (G : mj_G) (M : mj_M) (x m tp s kp : Nat) : Prop := lw_V G M x m tp s kp ∧ M.1 tp 1 = M.1 m 2
section LK
variable {Z : mj_S} {b n : Nat} {xs : Nat → Int} {L : mj_L} {G : mj_G} {M : mj_M} {cb sb x m tp s kp : Nat} {i : Int}
theorem lp_I.go {M' : mj_M} (hI : lp_I G M x m tp s kp) (V : lw_V G M' x m tp s kp) (S : M'.1 tp 1 = M.1 tp 1 ∧ M'.1 m 2 = M.1 m 2) : lp_I G M' x m tp s kp := ⟨V, S.1.trans (hI.2.trans S.2.symm)⟩
set_option maxRecDepth 100000 in
theorem lk_feed (hz : lv_Z Z b n xs) (hT : lv_T b n L x m i) (hxs : ∀ k, mj_in (xs k)) (hI : lp_I G M x m tp s kp) (kk : ∀ M2, lp_I G M2 x m tp s kp → Z (mj_law.drop 760) L [] G M2 cb sb) : Z (mj_law.drop 25) L [] G M cb sb := lv_s5 (P := fun z M1 => lw_V G M1 x m tp s kp ∧ M1.1 m 2 = M.1 tp 1 ∧ ((M.1 tp 1 ≤ 920 ∧ z = M.1 tp 1 + 20 ∧ M1.1 tp 1 = M.1 tp 1 + 20) ∨ (921 ≤ M.1 tp 1 ∧ z = -1 ∧ M1.1 tp 1 = M.1 tp 1))) (I := fun M2 => lp_I G M2 x m tp s kp) (y1 := 124) (y2 := 187) hz hT hI.1.2.1.1 hI.1.2.1.2.1 rfl rfl
  (fun Q hQ => lc_X11_feed (d := 9) hI.1 (hxs _) (hxs _) (hxs _) (hxs _) (hxs _) (fun h M' V e1 e2 => hQ _ M' ⟨V, e2.trans hI.2.symm, Or.inl ⟨h, rfl, e1⟩⟩) (fun h M' V e1 e2 => hQ _ M' ⟨V, e2.trans hI.2.symm, Or.inr ⟨h, rfl, e1⟩⟩))
  (fun z M1 h1 Q hQ => lc_X12_feed (d := 9) h1.1 (hxs _) (hxs _) (hxs _) (hxs _) (hxs _) (fun h M' V e1 e2 => hQ _ M' (by have h2 := h1.2; exact ⟨V, by omega⟩)) (fun h M' V e1 e2 => hQ _ M' (by have h2 := h1.2; exact ⟨V, by omega⟩))) kk
set_option maxRecDepth 100000 in
theorem lk_end (hz : lv_Z Z b n xs) (hT : lv_T b n L x m i) (hxs : ∀ k, mj_in (xs k)) (hI : lp_I G M x m tp s kp) (kk : ∀ M2, lp_I G M2 x m tp s kp → Z (mj_law.drop 760) L [] G M2 cb sb) : Z (mj_law.drop 82) L [] G M cb sb := lv_q1 (P := fun z M1 => lw_V G M1 x m tp s kp ∧ M1.1 m 2 = M.1 tp 1 ∧ (((xs (i + 1).toNat < 0 ∨ M.1 tp 1 < xs (i + 1).toNat) ∧ z = 0 ∧ M1.1 tp 1 = M.1 tp 1) ∨ (0 ≤ xs (i + 1).toNat ∧ xs (i + 1).toNat ≤ M.1 tp 1 ∧ z = 1 ∧ M1.1 tp 1 = xs (i + 1).toNat))) (I := fun M2 => lp_I G M2 x m tp s kp) (y1 := 121) (y2 := 184) hz hT hI.1.2.1.1 hI.1.2.1.2.1 rfl rfl
  (fun Q hQ => lc_X11_end (d := 9) hI.1 (hxs _) (fun h M' V e1 e2 => hQ _ M' ⟨V, e2.trans hI.2.symm, Or.inl ⟨h, rfl, e1⟩⟩) (fun h h' M' V e1 e2 => hQ _ M' ⟨V, e2.trans hI.2.symm, Or.inr ⟨h, h', rfl, e1⟩⟩))
  (fun z M1 h1 Q hQ => lc_X12_end (d := 9) h1.1 (hxs _) (fun h M' V e1 e2 => hQ _ M' (by have h2 := h1.2; exact ⟨by omega, V, by omega⟩)) (fun h h' M' V e1 e2 => hQ _ M' (by have h2 := h1.2; exact ⟨by omega, V, by omega⟩))) kk
set_option maxRecDepth 100000 in
theorem lk_plain (hz : lv_Z Z b n xs) (hT : lv_T b n L x m i) (hxs : ∀ k, mj_in (xs k)) (hI : lp_I G M x m tp s kp) (kk : ∀ M2, lp_I G M2 x m tp s kp → Z (mj_law.drop 760) L [] G M2 cb sb) : Z (mj_law.drop 99) L [] G M cb sb := lv_s0 (P := fun _ M1 => lw_V G M1 x m tp s kp ∧ M1.1 tp 1 = 0) (I := fun M2 => lp_I G M2 x m tp s kp) (y1 := 138) (y2 := 226) hz hT hI.1.2.1.1 hI.1.2.1.2.1 rfl rfl
  (fun Q hQ => lc_X11_plain (d := 9) hI.1 (fun z M' V e1 e2 => hQ z M' ⟨V, e1⟩))
  (fun z M1 h1 Q hQ => lc_X12_plain (d := 9) h1.1 (fun z M' V e1 e2 => hQ z M' ⟨V, by rw [e1, e2]; exact h1.2⟩)) kk
set_option maxRecDepth 100000 in
theorem lk_fault (hz : lv_Z Z b n xs) (hT : lv_T b n L x m i) (hxs : ∀ k, mj_in (xs k)) (hI : lp_I G M x m tp s kp) (kk : ∀ M2, lp_I G M2 x m tp s kp → Z (mj_law.drop 760) L [] G M2 cb sb) : Z (mj_law.drop 106) L [] G M cb sb := lv_s0 (P := fun _ M1 => lp_I G M1 x m tp s kp) (I := fun M2 => lp_I G M2 x m tp s kp) (y1 := 123) (y2 := 186) hz hT hI.1.2.1.1 hI.1.2.1.2.1 rfl rfl
  (fun Q hQ => lc_X11_fault (d := 9) hI.1 (fun z M' V S => hQ z M' (hI.go V S)))
  (fun z M1 h1 Q hQ => lc_X12_fault (d := 9) h1.1 (fun z M' V S => hQ z M' (h1.go V S))) kk
set_option maxRecDepth 100000 in
theorem lk_bid (hz : lv_Z Z b n xs) (hT : lv_T b n L x m i) (hxs : ∀ k, mj_in (xs k)) (hI : lp_I G M x m tp s kp) (kk : ∀ M2, lp_I G M2 x m tp s kp → Z (mj_law.drop 760) L [] G M2 cb sb) : Z (mj_law.drop 141) L [] G M cb sb := lv_s2 (P := fun _ M1 => lp_I G M1 x m tp s kp) (I := fun M2 => lp_I G M2 x m tp s kp) (y1 := 111) (y2 := 165) hz hT hI.1.2.1.1 hI.1.2.1.2.1 rfl rfl
  (fun Q hQ => lc_X11_bid (d := 9) hI.1 (hxs _) (hxs _) (fun z M' V S => hQ z M' (hI.go V S)))
  (fun z M1 h1 Q hQ => lc_X12_bid (d := 9) h1.1 (hxs _) (hxs _) (fun z M' V S => hQ z M' (h1.go V S))) kk
set_option maxRecDepth 100000 in
theorem lk_offer (hz : lv_Z Z b n xs) (hT : lv_T b n L x m i) (hxs : ∀ k, mj_in (xs k)) (hI : lp_I G M x m tp s kp) (kk : ∀ M2, lp_I G M2 x m tp s kp → Z (mj_law.drop 760) L [] G M2 cb sb) : Z (mj_law.drop 168) L [] G M cb sb := lv_s3 (P := fun _ M1 => lp_I G M1 x m tp s kp) (I := fun M2 => lp_I G M2 x m tp s kp) (y1 := 136) (y2 := 220) hz hT hI.1.2.1.1 hI.1.2.1.2.1 rfl rfl
  (fun Q hQ => lc_X11_offer (d := 9) hI.1 (hxs _) (hxs _) (hxs _) (fun z M' V S => hQ z M' (hI.go V S)))
  (fun z M1 h1 Q hQ => lc_X12_offer (d := 9) h1.1 (hxs _) (hxs _) (hxs _) (fun z M' V S => hQ z M' (h1.go V S))) kk
set_option maxRecDepth 100000 in
theorem lk_undo (hz : lv_Z Z b n xs) (hT : lv_T b n L x m i) (hxs : ∀ k, mj_in (xs k)) (hI : lp_I G M x m tp s kp) (kk : ∀ M2, lp_I G M2 x m tp s kp → Z (mj_law.drop 760) L [] G M2 cb sb) : Z (mj_law.drop 205) L [] G M cb sb := lv_s0 (P := fun _ M1 => lp_I G M1 x m tp s kp) (I := fun M2 => lp_I G M2 x m tp s kp) (y1 := 154) (y2 := 253) hz hT hI.1.2.1.1 hI.1.2.1.2.1 rfl rfl
  (fun Q hQ => lc_X11_undo (d := 9) hI.1 (fun z M' V S => hQ z M' (hI.go V S)))
  (fun z M1 h1 Q hQ => lc_X12_undo (d := 9) h1.1 (fun z M' V S => hQ z M' (h1.go V S))) kk
set_option maxRecDepth 100000 in
theorem lk_water (hz : lv_Z Z b n xs) (hT : lv_T b n L x m i) (hxs : ∀ k, mj_in (xs k)) (hI : lp_I G M x m tp s kp) (kk : ∀ M2, lp_I G M2 x m tp s kp → Z (mj_law.drop 760) L [] G M2 cb sb) : Z (mj_law.drop 212) L [] G M cb sb := lv_s1 (P := fun _ M1 => lp_I G M1 x m tp s kp) (I := fun M2 => lp_I G M2 x m tp s kp) (y1 := 155) (y2 := 256) hz hT hI.1.2.1.1 hI.1.2.1.2.1 rfl rfl
  (fun Q hQ => lc_X11_water (d := 9) hI.1 (hxs _) (fun z M' V S => hQ z M' (hI.go V S)))
  (fun z M1 h1 Q hQ => lc_X12_water (d := 9) h1.1 (hxs _) (fun z M' V S => hQ z M' (h1.go V S))) kk
set_option maxRecDepth 100000 in
theorem lk_contracts (hz : lv_Z Z b n xs) (hT : lv_T b n L x m i) (hxs : ∀ k, mj_in (xs k)) (hI : lp_I G M x m tp s kp) (kk : ∀ M2, lp_I G M2 x m tp s kp → Z (mj_law.drop 760) L [] G M2 cb sb) : Z (mj_law.drop 229) L [] G M cb sb := lv_s0 (P := fun _ M1 => lw_V G M1 x m tp s kp ∧ M1.1 tp 1 = 0) (I := fun M2 => lp_I G M2 x m tp s kp) (y1 := 117) (y2 := 177) hz hT hI.1.2.1.1 hI.1.2.1.2.1 rfl rfl
  (fun Q hQ => lc_X11_contracts (d := 9) hI.1 (fun z M' V e1 e2 => hQ z M' ⟨V, e1⟩))
  (fun z M1 h1 Q hQ => lc_X12_contracts (d := 9) h1.1 (fun z M' V e1 e2 => hQ z M' ⟨V, by rw [e1, e2]; exact h1.2⟩)) kk
set_option maxRecDepth 100000 in
theorem lk_contract (hz : lv_Z Z b n xs) (hT : lv_T b n L x m i) (hxs : ∀ k, mj_in (xs k)) (hI : lp_I G M x m tp s kp) (kk : ∀ M2, lp_I G M2 x m tp s kp → Z (mj_law.drop 760) L [] G M2 cb sb) : Z (mj_law.drop 236) L [] G M cb sb := lv_s2 (P := fun _ M1 => lp_I G M1 x m tp s kp) (I := fun M2 => lp_I G M2 x m tp s kp) (y1 := 116) (y2 := 176) hz hT hI.1.2.1.1 hI.1.2.1.2.1 rfl rfl
  (fun Q hQ => lc_X11_contract (d := 9) hI.1 (hxs _) (hxs _) (fun z M' V S => hQ z M' (hI.go V S)))
  (fun z M1 h1 Q hQ => lc_X12_contract (d := 9) h1.1 (hxs _) (hxs _) (fun z M' V S => hQ z M' (h1.go V S))) kk
set_option maxRecDepth 100000 in
theorem lk_begin (hz : lv_Z Z b n xs) (hT : lv_T b n L x m i) (hxs : ∀ k, mj_in (xs k)) (hI : lp_I G M x m tp s kp) (kk : ∀ M2, lp_I G M2 x m tp s kp → Z (mj_law.drop 760) L [] G M2 cb sb) : Z (mj_law.drop 263) L [] G M cb sb := lv_s0 (P := fun _ M1 => lp_I G M1 x m tp s kp) (I := fun M2 => lp_I G M2 x m tp s kp) (y1 := 110) (y2 := 162) hz hT hI.1.2.1.1 hI.1.2.1.2.1 rfl rfl
  (fun Q hQ => lc_X11_begin (d := 9) hI.1 (fun z M' V S => hQ z M' (hI.go V S)))
  (fun z M1 h1 Q hQ => lc_X12_begin (d := 9) h1.1 (fun z M' V S => hQ z M' (h1.go V S))) kk
set_option maxRecDepth 100000 in
theorem lk_on (hz : lv_Z Z b n xs) (hT : lv_T b n L x m i) (hxs : ∀ k, mj_in (xs k)) (hI : lp_I G M x m tp s kp) (kk : ∀ M2, lp_I G M2 x m tp s kp → Z (mj_law.drop 760) L [] G M2 cb sb) : Z (mj_law.drop 270) L [] G M cb sb := lv_s1 (P := fun _ M1 => lp_I G M1 x m tp s kp) (I := fun M2 => lp_I G M2 x m tp s kp) (y1 := 137) (y2 := 221) hz hT hI.1.2.1.1 hI.1.2.1.2.1 rfl rfl
  (fun Q hQ => lc_X11_on (d := 9) hI.1 (hxs _) (fun z M' V S => hQ z M' (hI.go V S)))
  (fun z M1 h1 Q hQ => lc_X12_on (d := 9) h1.1 (hxs _) (fun z M' V S => hQ z M' (h1.go V S))) kk
set_option maxRecDepth 100000 in
theorem lk_year (hz : lv_Z Z b n xs) (hT : lv_T b n L x m i) (hxs : ∀ k, mj_in (xs k)) (hI : lp_I G M x m tp s kp) (kk : ∀ M2, lp_I G M2 x m tp s kp → Z (mj_law.drop 760) L [] G M2 cb sb) : Z (mj_law.drop 287) L [] G M cb sb := lv_s1 (P := fun _ M1 => lp_I G M1 x m tp s kp) (I := fun M2 => lp_I G M2 x m tp s kp) (y1 := 159) (y2 := 261) hz hT hI.1.2.1.1 hI.1.2.1.2.1 rfl rfl
  (fun Q hQ => lc_X11_year (d := 9) hI.1 (hxs _) (fun z M' V S => hQ z M' (hI.go V S)))
  (fun z M1 h1 Q hQ => lc_X12_year (d := 9) h1.1 (hxs _) (fun z M' V S => hQ z M' (h1.go V S))) kk
set_option maxRecDepth 100000 in
theorem lk_town (hz : lv_Z Z b n xs) (hT : lv_T b n L x m i) (hxs : ∀ k, mj_in (xs k)) (hI : lp_I G M x m tp s kp) (kk : ∀ M2, lp_I G M2 x m tp s kp → Z (mj_law.drop 760) L [] G M2 cb sb) : Z (mj_law.drop 304) L [] G M cb sb := lv_s2 (P := fun _ M1 => lp_I G M1 x m tp s kp) (I := fun M2 => lp_I G M2 x m tp s kp) (y1 := 152) (y2 := 252) hz hT hI.1.2.1.1 hI.1.2.1.2.1 rfl rfl
  (fun Q hQ => lc_X11_town (d := 9) hI.1 (hxs _) (hxs _) (fun z M' V S => hQ z M' (hI.go V S)))
  (fun z M1 h1 Q hQ => lc_X12_town (d := 9) h1.1 (hxs _) (hxs _) (fun z M' V S => hQ z M' (h1.go V S))) kk
set_option maxRecDepth 100000 in
theorem lk_let (hz : lv_Z Z b n xs) (hT : lv_T b n L x m i) (hxs : ∀ k, mj_in (xs k)) (hI : lp_I G M x m tp s kp) (kk : ∀ M2, lp_I G M2 x m tp s kp → Z (mj_law.drop 760) L [] G M2 cb sb) : Z (mj_law.drop 331) L [] G M cb sb := lv_s2 (P := fun _ M1 => lp_I G M1 x m tp s kp) (I := fun M2 => lp_I G M2 x m tp s kp) (y1 := 133) (y2 := 211) hz hT hI.1.2.1.1 hI.1.2.1.2.1 rfl rfl
  (fun Q hQ => lc_X11_let (d := 9) hI.1 (hxs _) (hxs _) (fun z M' V S => hQ z M' (hI.go V S)))
  (fun z M1 h1 Q hQ => lc_X12_let (d := 9) h1.1 (hxs _) (hxs _) (fun z M' V S => hQ z M' (h1.go V S))) kk
set_option maxRecDepth 100000 in
theorem lk_droughts (hz : lv_Z Z b n xs) (hT : lv_T b n L x m i) (hxs : ∀ k, mj_in (xs k)) (hI : lp_I G M x m tp s kp) (kk : ∀ M2, lp_I G M2 x m tp s kp → Z (mj_law.drop 760) L [] G M2 cb sb) : Z (mj_law.drop 358) L [] G M cb sb := lv_s0 (P := fun _ M1 => lp_I G M1 x m tp s kp) (I := fun M2 => lp_I G M2 x m tp s kp) (y1 := 120) (y2 := 183) hz hT hI.1.2.1.1 hI.1.2.1.2.1 rfl rfl
  (fun Q hQ => lc_X11_droughts (d := 9) hI.1 (fun z M' V S => hQ z M' (hI.go V S)))
  (fun z M1 h1 Q hQ => lc_X12_droughts (d := 9) h1.1 (fun z M' V S => hQ z M' (h1.go V S))) kk
set_option maxRecDepth 100000 in
theorem lk_cheapest (hz : lv_Z Z b n xs) (hT : lv_T b n L x m i) (hxs : ∀ k, mj_in (xs k)) (hI : lp_I G M x m tp s kp) (kk : ∀ M2, lp_I G M2 x m tp s kp → Z (mj_law.drop 760) L [] G M2 cb sb) : Z (mj_law.drop 365) L [] G M cb sb := lv_s0 (P := fun _ M1 => lp_I G M1 x m tp s kp) (I := fun M2 => lp_I G M2 x m tp s kp) (y1 := 114) (y2 := 173) hz hT hI.1.2.1.1 hI.1.2.1.2.1 rfl rfl
  (fun Q hQ => lc_X11_cheapest (d := 9) hI.1 (fun z M' V S => hQ z M' (hI.go V S)))
  (fun z M1 h1 Q hQ => lc_X12_cheapest (d := 9) h1.1 (fun z M' V S => hQ z M' (h1.go V S))) kk
set_option maxRecDepth 100000 in
theorem lk_plan (hz : lv_Z Z b n xs) (hT : lv_T b n L x m i) (hxs : ∀ k, mj_in (xs k)) (hI : lp_I G M x m tp s kp) (kk : ∀ M2, lp_I G M2 x m tp s kp → Z (mj_law.drop 760) L [] G M2 cb sb) : Z (mj_law.drop 372) L [] G M cb sb := lv_s1 (P := fun _ M1 => lp_I G M1 x m tp s kp) (I := fun M2 => lp_I G M2 x m tp s kp) (y1 := 139) (y2 := 227) hz hT hI.1.2.1.1 hI.1.2.1.2.1 rfl rfl
  (fun Q hQ => lc_X11_plan (d := 9) hI.1 (hxs _) (fun z M' V S => hQ z M' (hI.go V S)))
  (fun z M1 h1 Q hQ => lc_X12_plan (d := 9) h1.1 (hxs _) (fun z M' V S => hQ z M' (h1.go V S))) kk
set_option maxRecDepth 100000 in
theorem lk_take (hz : lv_Z Z b n xs) (hT : lv_T b n L x m i) (hxs : ∀ k, mj_in (xs k)) (hI : lp_I G M x m tp s kp) (kk : ∀ M2, lp_I G M2 x m tp s kp → Z (mj_law.drop 760) L [] G M2 cb sb) : Z (mj_law.drop 389) L [] G M cb sb := lv_s0 (P := fun _ M1 => lp_I G M1 x m tp s kp) (I := fun M2 => lp_I G M2 x m tp s kp) (y1 := 150) (y2 := 244) hz hT hI.1.2.1.1 hI.1.2.1.2.1 rfl rfl
  (fun Q hQ => lc_X11_take (d := 9) hI.1 (fun z M' V S => hQ z M' (hI.go V S)))
  (fun z M1 h1 Q hQ => lc_X12_take (d := 9) h1.1 (fun z M' V S => hQ z M' (h1.go V S))) kk
set_option maxRecDepth 100000 in
theorem lk_rounds (hz : lv_Z Z b n xs) (hT : lv_T b n L x m i) (hxs : ∀ k, mj_in (xs k)) (hI : lp_I G M x m tp s kp) (kk : ∀ M2, lp_I G M2 x m tp s kp → Z (mj_law.drop 760) L [] G M2 cb sb) : Z (mj_law.drop 396) L [] G M cb sb := lv_s1 (P := fun _ M1 => lp_I G M1 x m tp s kp) (I := fun M2 => lp_I G M2 x m tp s kp) (y1 := 145) (y2 := 236) hz hT hI.1.2.1.1 hI.1.2.1.2.1 rfl rfl
  (fun Q hQ => lc_X11_rounds (d := 9) hI.1 (hxs _) (fun z M' V S => hQ z M' (hI.go V S)))
  (fun z M1 h1 Q hQ => lc_X12_rounds (d := 9) h1.1 (hxs _) (fun z M' V S => hQ z M' (h1.go V S))) kk
set_option maxRecDepth 100000 in
theorem lk_has (hz : lv_Z Z b n xs) (hT : lv_T b n L x m i) (hxs : ∀ k, mj_in (xs k)) (hI : lp_I G M x m tp s kp) (kk : ∀ M2, lp_I G M2 x m tp s kp → Z (mj_law.drop 760) L [] G M2 cb sb) : Z (mj_law.drop 413) L [] G M cb sb := lv_s1 (P := fun _ M1 => lp_I G M1 x m tp s kp) (I := fun M2 => lp_I G M2 x m tp s kp) (y1 := 126) (y2 := 193) hz hT hI.1.2.1.1 hI.1.2.1.2.1 rfl rfl
  (fun Q hQ => lc_X11_has (d := 9) hI.1 (hxs _) (fun z M' V S => hQ z M' (hI.go V S)))
  (fun z M1 h1 Q hQ => lc_X12_has (d := 9) h1.1 (hxs _) (fun z M' V S => hQ z M' (h1.go V S))) kk
set_option maxRecDepth 100000 in
theorem lk_price (hz : lv_Z Z b n xs) (hT : lv_T b n L x m i) (hxs : ∀ k, mj_in (xs k)) (hI : lp_I G M x m tp s kp) (kk : ∀ M2, lp_I G M2 x m tp s kp → Z (mj_law.drop 760) L [] G M2 cb sb) : Z (mj_law.drop 430) L [] G M cb sb := lv_s1 (P := fun _ M1 => lp_I G M1 x m tp s kp) (I := fun M2 => lp_I G M2 x m tp s kp) (y1 := 140) (y2 := 228) hz hT hI.1.2.1.1 hI.1.2.1.2.1 rfl rfl
  (fun Q hQ => lc_X11_price (d := 9) hI.1 (hxs _) (fun z M' V S => hQ z M' (hI.go V S)))
  (fun z M1 h1 Q hQ => lc_X12_price (d := 9) h1.1 (hxs _) (fun z M' V S => hQ z M' (h1.go V S))) kk
set_option maxRecDepth 100000 in
theorem lk_leaks (hz : lv_Z Z b n xs) (hT : lv_T b n L x m i) (hxs : ∀ k, mj_in (xs k)) (hI : lp_I G M x m tp s kp) (kk : ∀ M2, lp_I G M2 x m tp s kp → Z (mj_law.drop 760) L [] G M2 cb sb) : Z (mj_law.drop 447) L [] G M cb sb := lv_s0 (P := fun _ M1 => lw_V G M1 x m tp s kp ∧ M1.1 tp 1 = 0) (I := fun M2 => lp_I G M2 x m tp s kp) (y1 := 132) (y2 := 210) hz hT hI.1.2.1.1 hI.1.2.1.2.1 rfl rfl
  (fun Q hQ => lc_X11_leaks (d := 9) hI.1 (fun z M' V e1 e2 => hQ z M' ⟨V, e1⟩))
  (fun z M1 h1 Q hQ => lc_X12_leaks (d := 9) h1.1 (fun z M' V e1 e2 => hQ z M' ⟨V, by rw [e1, e2]; exact h1.2⟩)) kk
set_option maxRecDepth 100000 in
theorem lk_leak (hz : lv_Z Z b n xs) (hT : lv_T b n L x m i) (hxs : ∀ k, mj_in (xs k)) (hI : lp_I G M x m tp s kp) (kk : ∀ M2, lp_I G M2 x m tp s kp → Z (mj_law.drop 760) L [] G M2 cb sb) : Z (mj_law.drop 454) L [] G M cb sb := lv_s2 (P := fun _ M1 => lp_I G M1 x m tp s kp) (I := fun M2 => lp_I G M2 x m tp s kp) (y1 := 131) (y2 := 209) hz hT hI.1.2.1.1 hI.1.2.1.2.1 rfl rfl
  (fun Q hQ => lc_X11_leak (d := 9) hI.1 (hxs _) (hxs _) (fun z M' V S => hQ z M' (hI.go V S)))
  (fun z M1 h1 Q hQ => lc_X12_leak (d := 9) h1.1 (hxs _) (hxs _) (fun z M' V S => hQ z M' (h1.go V S))) kk
set_option maxRecDepth 100000 in
theorem lk_wettest (hz : lv_Z Z b n xs) (hT : lv_T b n L x m i) (hxs : ∀ k, mj_in (xs k)) (hI : lp_I G M x m tp s kp) (kk : ∀ M2, lp_I G M2 x m tp s kp → Z (mj_law.drop 760) L [] G M2 cb sb) : Z (mj_law.drop 481) L [] G M cb sb := lv_s1 (P := fun _ M1 => lp_I G M1 x m tp s kp) (I := fun M2 => lp_I G M2 x m tp s kp) (y1 := 156) (y2 := 257) hz hT hI.1.2.1.1 hI.1.2.1.2.1 rfl rfl
  (fun Q hQ => lc_X11_wettest (d := 9) hI.1 (hxs _) (fun z M' V S => hQ z M' (hI.go V S)))
  (fun z M1 h1 Q hQ => lc_X12_wettest (d := 9) h1.1 (hxs _) (fun z M' V S => hQ z M' (h1.go V S))) kk
set_option maxRecDepth 100000 in
theorem lk_enough (hz : lv_Z Z b n xs) (hT : lv_T b n L x m i) (hxs : ∀ k, mj_in (xs k)) (hI : lp_I G M x m tp s kp) (kk : ∀ M2, lp_I G M2 x m tp s kp → Z (mj_law.drop 760) L [] G M2 cb sb) : Z (mj_law.drop 498) L [] G M cb sb := lv_s1 (P := fun _ M1 => lp_I G M1 x m tp s kp) (I := fun M2 => lp_I G M2 x m tp s kp) (y1 := 122) (y2 := 185) hz hT hI.1.2.1.1 hI.1.2.1.2.1 rfl rfl
  (fun Q hQ => lc_X11_enough (d := 9) hI.1 (hxs _) (fun z M' V S => hQ z M' (hI.go V S)))
  (fun z M1 h1 Q hQ => lc_X12_enough (d := 9) h1.1 (hxs _) (fun z M' V S => hQ z M' (h1.go V S))) kk
set_option maxRecDepth 100000 in
theorem lk_shoresOf (hz : lv_Z Z b n xs) (hT : lv_T b n L x m i) (hxs : ∀ k, mj_in (xs k)) (hI : lp_I G M x m tp s kp) (kk : ∀ M2, lp_I G M2 x m tp s kp → Z (mj_law.drop 760) L [] G M2 cb sb) : Z (mj_law.drop 515) L [] G M cb sb := lv_s0 (P := fun _ M1 => lp_I G M1 x m tp s kp) (I := fun M2 => lp_I G M2 x m tp s kp) (y1 := 149) (y2 := 241) hz hT hI.1.2.1.1 hI.1.2.1.2.1 rfl rfl
  (fun Q hQ => lc_X11_shoresOf (d := 9) hI.1 (fun z M' V S => hQ z M' (hI.go V S)))
  (fun z M1 h1 Q hQ => lc_X12_shoresOf (d := 9) h1.1 (fun z M' V S => hQ z M' (h1.go V S))) kk
set_option maxRecDepth 100000 in
theorem lk_thirsty (hz : lv_Z Z b n xs) (hT : lv_T b n L x m i) (hxs : ∀ k, mj_in (xs k)) (hI : lp_I G M x m tp s kp) (kk : ∀ M2, lp_I G M2 x m tp s kp → Z (mj_law.drop 760) L [] G M2 cb sb) : Z (mj_law.drop 522) L [] G M cb sb := lv_s0 (P := fun _ M1 => lp_I G M1 x m tp s kp) (I := fun M2 => lp_I G M2 x m tp s kp) (y1 := 151) (y2 := 248) hz hT hI.1.2.1.1 hI.1.2.1.2.1 rfl rfl
  (fun Q hQ => lc_X11_thirsty (d := 9) hI.1 (fun z M' V S => hQ z M' (hI.go V S)))
  (fun z M1 h1 Q hQ => lc_X12_thirsty (d := 9) h1.1 (fun z M' V S => hQ z M' (h1.go V S))) kk
set_option maxRecDepth 100000 in
theorem lk_bidsOf (hz : lv_Z Z b n xs) (hT : lv_T b n L x m i) (hxs : ∀ k, mj_in (xs k)) (hI : lp_I G M x m tp s kp) (kk : ∀ M2, lp_I G M2 x m tp s kp → Z (mj_law.drop 760) L [] G M2 cb sb) : Z (mj_law.drop 529) L [] G M cb sb := lv_s1 (P := fun _ M1 => lp_I G M1 x m tp s kp) (I := fun M2 => lp_I G M2 x m tp s kp) (y1 := 112) (y2 := 168) hz hT hI.1.2.1.1 hI.1.2.1.2.1 rfl rfl
  (fun Q hQ => lc_X11_bidsOf (d := 9) hI.1 (hxs _) (fun z M' V S => hQ z M' (hI.go V S)))
  (fun z M1 h1 Q hQ => lc_X12_bidsOf (d := 9) h1.1 (hxs _) (fun z M' V S => hQ z M' (h1.go V S))) kk
set_option maxRecDepth 100000 in
theorem lk_greatest (hz : lv_Z Z b n xs) (hT : lv_T b n L x m i) (hxs : ∀ k, mj_in (xs k)) (hI : lp_I G M x m tp s kp) (kk : ∀ M2, lp_I G M2 x m tp s kp → Z (mj_law.drop 760) L [] G M2 cb sb) : Z (mj_law.drop 546) L [] G M cb sb := lv_s1 (P := fun _ M1 => lp_I G M1 x m tp s kp) (I := fun M2 => lp_I G M2 x m tp s kp) (y1 := 125) (y2 := 192) hz hT hI.1.2.1.1 hI.1.2.1.2.1 rfl rfl
  (fun Q hQ => lc_X11_greatest (d := 9) hI.1 (hxs _) (fun z M' V S => hQ z M' (hI.go V S)))
  (fun z M1 h1 Q hQ => lc_X12_greatest (d := 9) h1.1 (hxs _) (fun z M' V S => hQ z M' (h1.go V S))) kk
set_option maxRecDepth 100000 in
theorem lk_write (hz : lv_Z Z b n xs) (hT : lv_T b n L x m i) (hxs : ∀ k, mj_in (xs k)) (hI : lp_I G M x m tp s kp) (kk : ∀ M2, lp_I G M2 x m tp s kp → Z (mj_law.drop 760) L [] G M2 cb sb) : Z (mj_law.drop 563) L [] G M cb sb := lv_s0 (P := fun _ M1 => lp_I G M1 x m tp s kp) (I := fun M2 => lp_I G M2 x m tp s kp) (y1 := 158) (y2 := 260) hz hT hI.1.2.1.1 hI.1.2.1.2.1 rfl rfl
  (fun Q hQ => lc_X11_write (d := 9) hI.1 (fun z M' V S => hQ z M' (hI.go V S)))
  (fun z M1 h1 Q hQ => lc_X12_write (d := 9) h1.1 (fun z M' V S => hQ z M' (h1.go V S))) kk
set_option maxRecDepth 100000 in
theorem lk_byteAt (hz : lv_Z Z b n xs) (hT : lv_T b n L x m i) (hxs : ∀ k, mj_in (xs k)) (hI : lp_I G M x m tp s kp) (kk : ∀ M2, lp_I G M2 x m tp s kp → Z (mj_law.drop 760) L [] G M2 cb sb) : Z (mj_law.drop 570) L [] G M cb sb := lv_s1 (P := fun _ M1 => lp_I G M1 x m tp s kp) (I := fun M2 => lp_I G M2 x m tp s kp) (y1 := 113) (y2 := 170) hz hT hI.1.2.1.1 hI.1.2.1.2.1 rfl rfl
  (fun Q hQ => lc_X11_byteAt (d := 9) hI.1 (hxs _) (fun z M' V S => hQ z M' (hI.go V S)))
  (fun z M1 h1 Q hQ => lc_X12_byteAt (d := 9) h1.1 (hxs _) (fun z M' V S => hQ z M' (h1.go V S))) kk
set_option maxRecDepth 100000 in
theorem lk_worth (hz : lv_Z Z b n xs) (hT : lv_T b n L x m i) (hxs : ∀ k, mj_in (xs k)) (hI : lp_I G M x m tp s kp) (kk : ∀ M2, lp_I G M2 x m tp s kp → Z (mj_law.drop 760) L [] G M2 cb sb) : Z (mj_law.drop 587) L [] G M cb sb := lv_s1 (P := fun _ M1 => lp_I G M1 x m tp s kp) (I := fun M2 => lp_I G M2 x m tp s kp) (y1 := 157) (y2 := 259) hz hT hI.1.2.1.1 hI.1.2.1.2.1 rfl rfl
  (fun Q hQ => lc_X11_worth (d := 9) hI.1 (hxs _) (fun z M' V S => hQ z M' (hI.go V S)))
  (fun z M1 h1 Q hQ => lc_X12_worth (d := 9) h1.1 (hxs _) (fun z M' V S => hQ z M' (h1.go V S))) kk
set_option maxRecDepth 100000 in
theorem lk_drawn (hz : lv_Z Z b n xs) (hT : lv_T b n L x m i) (hxs : ∀ k, mj_in (xs k)) (hI : lp_I G M x m tp s kp) (kk : ∀ M2, lp_I G M2 x m tp s kp → Z (mj_law.drop 760) L [] G M2 cb sb) : Z (mj_law.drop 604) L [] G M cb sb := lv_s1 (P := fun _ M1 => lp_I G M1 x m tp s kp) (I := fun M2 => lp_I G M2 x m tp s kp) (y1 := 119) (y2 := 182) hz hT hI.1.2.1.1 hI.1.2.1.2.1 rfl rfl
  (fun Q hQ => lc_X11_drawn (d := 9) hI.1 (hxs _) (fun z M' V S => hQ z M' (hI.go V S)))
  (fun z M1 h1 Q hQ => lc_X12_drawn (d := 9) h1.1 (hxs _) (fun z M' V S => hQ z M' (h1.go V S))) kk
set_option maxRecDepth 100000 in
theorem lk_shores (hz : lv_Z Z b n xs) (hT : lv_T b n L x m i) (hxs : ∀ k, mj_in (xs k)) (hI : lp_I G M x m tp s kp) (kk : ∀ M2, lp_I G M2 x m tp s kp → Z (mj_law.drop 760) L [] G M2 cb sb) : Z (mj_law.drop 621) L [] G M cb sb := lv_s3 (P := fun _ M1 => lp_I G M1 x m tp s kp) (I := fun M2 => lp_I G M2 x m tp s kp) (y1 := 148) (y2 := 240) hz hT hI.1.2.1.1 hI.1.2.1.2.1 rfl rfl
  (fun Q hQ => lc_X11_shores (d := 9) hI.1 (hxs _) (hxs _) (hxs _) (fun z M' V S => hQ z M' (hI.go V S)))
  (fun z M1 h1 Q hQ => lc_X12_shores (d := 9) h1.1 (hxs _) (hxs _) (hxs _) (fun z M' V S => hQ z M' (h1.go V S))) kk
set_option maxRecDepth 100000 in
theorem lk_must (hz : lv_Z Z b n xs) (hT : lv_T b n L x m i) (hxs : ∀ k, mj_in (xs k)) (hI : lp_I G M x m tp s kp) (kk : ∀ M2, lp_I G M2 x m tp s kp → Z (mj_law.drop 760) L [] G M2 cb sb) : Z (mj_law.drop 658) L [] G M cb sb := lv_s2 (P := fun _ M1 => lp_I G M1 x m tp s kp) (I := fun M2 => lp_I G M2 x m tp s kp) (y1 := 135) (y2 := 215) hz hT hI.1.2.1.1 hI.1.2.1.2.1 rfl rfl
  (fun Q hQ => lc_X11_must (d := 9) hI.1 (hxs _) (hxs _) (fun z M' V S => hQ z M' (hI.go V S)))
  (fun z M1 h1 Q hQ => lc_X12_must (d := 9) h1.1 (hxs _) (hxs _) (fun z M' V S => hQ z M' (h1.go V S))) kk
set_option maxRecDepth 100000 in
theorem lk_sentence (hz : lv_Z Z b n xs) (hT : lv_T b n L x m i) (hxs : ∀ k, mj_in (xs k)) (hI : lp_I G M x m tp s kp) (kk : ∀ M2, lp_I G M2 x m tp s kp → Z (mj_law.drop 760) L [] G M2 cb sb) : Z (mj_law.drop 685) L [] G M cb sb := lv_s0 (P := fun _ M1 => lw_V G M1 x m tp s kp ∧ M1.1 tp 1 = 0) (I := fun M2 => lp_I G M2 x m tp s kp) (y1 := 147) (y2 := 239) hz hT hI.1.2.1.1 hI.1.2.1.2.1 rfl rfl
  (fun Q hQ => lc_X11_sentence (d := 9) hI.1 (fun z M' V e1 e2 => hQ z M' ⟨V, e1⟩))
  (fun z M1 h1 Q hQ => lc_X12_sentence (d := 9) h1.1 (fun z M' V e1 e2 => hQ z M' ⟨V, by rw [e1, e2]; exact h1.2⟩)) kk
set_option maxRecDepth 100000 in
theorem lk_said (hz : lv_Z Z b n xs) (hT : lv_T b n L x m i) (hxs : ∀ k, mj_in (xs k)) (hI : lp_I G M x m tp s kp) (kk : ∀ M2, lp_I G M2 x m tp s kp → Z (mj_law.drop 760) L [] G M2 cb sb) : Z (mj_law.drop 692) L [] G M cb sb := lv_s1 (P := fun _ M1 => lp_I G M1 x m tp s kp) (I := fun M2 => lp_I G M2 x m tp s kp) (y1 := 146) (y2 := 238) hz hT hI.1.2.1.1 hI.1.2.1.2.1 rfl rfl
  (fun Q hQ => lc_X11_said (d := 9) hI.1 (hxs _) (fun z M' V S => hQ z M' (hI.go V S)))
  (fun z M1 h1 Q hQ => lc_X12_said (d := 9) h1.1 (fun z M' V S => hQ z M' (h1.go V S))) kk
set_option maxRecDepth 100000 in
theorem lk_image (hz : lv_Z Z b n xs) (hT : lv_T b n L x m i) (hxs : ∀ k, mj_in (xs k)) (hI : lp_I G M x m tp s kp) (kk : ∀ M2, lp_I G M2 x m tp s kp → Z (mj_law.drop 760) L [] G M2 cb sb) : Z (mj_law.drop 709) L [] G M cb sb := lv_s1 (P := fun _ M1 => lp_I G M1 x m tp s kp) (I := fun M2 => lp_I G M2 x m tp s kp) (y1 := 127) (y2 := 195) hz hT hI.1.2.1.1 hI.1.2.1.2.1 rfl rfl
  (fun Q hQ => lc_X11_image (d := 9) hI.1 (hxs _) (fun z M' V S => hQ z M' (hI.go V S)))
  (fun z M1 h1 Q hQ => lc_X12_image (d := 9) h1.1 (fun z M' V S => hQ z M' (h1.go V S))) kk
set_option maxRecDepth 100000 in
theorem lk_restore (hz : lv_Z Z b n xs) (hT : lv_T b n L x m i) (hxs : ∀ k, mj_in (xs k)) (hI : lp_I G M x m tp s kp) (kk : ∀ M2, lp_I G M2 x m tp s kp → Z (mj_law.drop 760) L [] G M2 cb sb) : Z (mj_law.drop 726) L [] G M cb sb := lv_s1 (P := fun _ M1 => lp_I G M1 x m tp s kp) (I := fun M2 => lp_I G M2 x m tp s kp) (y1 := 144) (y2 := 235) hz hT hI.1.2.1.1 hI.1.2.1.2.1 rfl rfl
  (fun Q hQ => lc_X11_restore (d := 9) hI.1 (hxs _) (fun z M' V S => hQ z M' (hI.go V S)))
  (fun z M1 h1 Q hQ => lc_X12_restore (d := 9) h1.1 (fun z M' V S => hQ z M' (h1.go V S))) kk
set_option maxRecDepth 100000 in
theorem lk_count (hz : lv_Z Z b n xs) (hT : lv_T b n L x m i) (hxs : ∀ k, mj_in (xs k)) (hI : lp_I G M x m tp s kp) (kk : ∀ M2, lp_I G M2 x m tp s kp → Z (mj_law.drop 760) L [] G M2 cb sb) : Z (mj_law.drop 743) L [] G M cb sb := lv_s1 (P := fun _ M1 => lp_I G M1 x m tp s kp) (I := fun M2 => lp_I G M2 x m tp s kp) (y1 := 118) (y2 := 179) hz hT hI.1.2.1.1 hI.1.2.1.2.1 rfl rfl
  (fun Q hQ => lc_X11_count (d := 9) hI.1 (hxs _) (fun z M' V S => hQ z M' (hI.go V S)))
  (fun z M1 h1 Q hQ => lc_X12_count (d := 9) h1.1 (hxs _) (fun z M' V S => hQ z M' (h1.go V S))) kk
end LK
