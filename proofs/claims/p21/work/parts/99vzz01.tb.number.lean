/-! ===== numbers put ===== -/
def pt_n (v : Int) : List Int := (if 99 < v then [48 + v / 100] else []) ++ ((if 9 < v then [48 + v / 10 % 10] else []) ++ [48 + v % 10])
theorem pt_n_len (v : Int) : (pt_n v).length ≤ 3 := by
  unfold pt_n
  rw [List.length_append, List.length_append]
  (repeat' split) <;> simp
section PTN
variable {G : mj_G} {M M0 : mj_M} {x xb m mb : Nat} {L : List Int} {v z : Int} {Q : mj_P} {d : Nat}
theorem pt_d10 {x : Int} (h0 : 0 ≤ x) (hx : x ≤ 999) (e : z = (Int32.ofInt x / Int32.ofInt 10).toInt) : z = x / 10 := by
  have h := cs_idiv h0 (by decide : (0 : Int) < 10) ⟨by omega, by omega⟩ ⟨by decide, by decide⟩ e
  have e2 : ((10 : Int).toNat) = 10 := rfl
  rw [e2] at h
  omega
theorem pt_d100 {x : Int} (h0 : 0 ≤ x) (hx : x ≤ 999) (e : z = (Int32.ofInt x / Int32.ofInt 100).toInt) : z = x / 100 := by
  have h := cs_idiv h0 (by decide : (0 : Int) < 100) ⟨by omega, by omega⟩ ⟨by decide, by decide⟩ e
  have e2 : ((100 : Int).toNat) = 100 := rfl
  rw [e2] at h
  omega
theorem pt_r10 {x : Int} (h0 : 0 ≤ x) (hx : x ≤ 999) (e : z = (Int32.ofInt x - Int32.ofInt x / Int32.ofInt 10 * Int32.ofInt 10).toInt) : z = x % 10 := by
  have h := cs_irem h0 (by decide : (0 : Int) < 10) ⟨by omega, by omega⟩ ⟨by decide, by decide⟩ e
  have e2 : ((10 : Int).toNat) = 10 := rfl
  rw [e2] at h
  omega
theorem r_putNumberX11 (g : G x = (1011, 0)) (gb : G xb = (49101, 300)) (rr : M0.2.2 x 10 = some xb) (hS : pt_S x 11 xb M0 L M) (hl : L.length + 3 ≤ 300) (v0 : 0 ≤ v) (v1 : v ≤ 999) (h : ∀ M', pt_S x 11 xb M0 (L ++ pt_n v) M' → Q none G M') : mj_R mj_tab (d + 2) 142 [.inr (.inr (some x)), .inl v] G M Q := by
  have s3 : ∀ (L' : List Int) (M' : mj_M) (cb sb : Nat), pt_S x 11 xb M0 L' M' → L'.length < 300 → L' ++ [48 + v % 10] = L ++ pt_n v → wz (d + 1) mt_X11_putNumber.2.2.2.2.1 Q (mt_X11_putNumber.2.2.2.2.1.drop 24) [some (.inr (.inr (some x))), some (.inl v)] [] G M' cb sb := fun L' M' cb sb h1 h2 h3 => by
    refine w_aln rfl ?_
    refine w_bp ?_
    refine w_iln rfl ?_
    refine w_bp ?_
    refine w_rem (by decide) ?_
    intro y2 hy2 ey2
    obtain rfl : y2 = v % 10 := pt_r10 v0 v1 ey2
    refine w_add ⟨by omega, by omega⟩ ?_
    refine w_cv (st := []) rfl g rfl (Nat.le_of_ble_eq_true rfl) (fun kk h => h) (r_putByte (d := d) g gb rr h1 (by omega) (by omega) (by omega) (fun M9 h9 => ?_))
    rw [h3] at h9
    exact w_ret (h M9 h9)
  have s2 : ∀ (L' : List Int) (M' : mj_M) (cb sb : Nat), pt_S x 11 xb M0 L' M' → L'.length + 1 < 300 → L' ++ ((if 9 < v then [48 + v / 10 % 10] else []) ++ [48 + v % 10]) = L ++ pt_n v → wz (d + 1) mt_X11_putNumber.2.2.2.2.1 Q (mt_X11_putNumber.2.2.2.2.1.drop 12) [some (.inr (.inr (some x))), some (.inl v)] [] G M' cb sb := fun L' M' cb sb h1 h2 h3 => by
    refine w_iln rfl ?_
    refine w_bp ?_
    refine w_cmle (fun c => ?_) (fun c => ?_)
    · rw [if_neg (by omega), List.nil_append] at h3
      exact s3 L' M' _ _ h1 (by omega) h3
    · rw [if_pos (by omega), ← List.append_assoc] at h3
      refine w_aln rfl ?_
      refine w_bp ?_
      refine w_iln rfl ?_
      refine w_bp ?_
      refine w_div (by decide) ?_
      intro y1 hy1 ey1
      obtain rfl : y1 = v / 10 := pt_d10 v0 v1 ey1
      refine w_bp ?_
      refine w_rem (by decide) ?_
      intro y2 hy2 ey2
      obtain rfl : y2 = v / 10 % 10 := pt_r10 (by omega) (by omega) ey2
      refine w_add ⟨by omega, by omega⟩ ?_
      refine w_cv (st := []) rfl g rfl (Nat.le_of_ble_eq_true rfl) (fun kk h => h) (r_putByte (d := d) g gb rr h1 (by omega) (by omega) (by omega) (fun M9 h9 => ?_))
      exact s3 _ M9 _ _ h9 (by rw [List.length_append]; show L'.length + 1 < 300; omega) h3
  refine ⟨Nat.le_of_ble_eq_true rfl, ?_⟩
  show wz (d + 1) mt_X11_putNumber.2.2.2.2.1 Q mt_X11_putNumber.2.2.2.2.1 [some (.inr (.inr (some x))), some (.inl v)] [] G M _ _
  refine w_iln rfl ?_
  refine w_bp ?_
  refine w_cmle (fun c => ?_) (fun c => ?_)
  · exact s2 L M _ _ hS (by omega) (by unfold pt_n; rw [if_neg (show ¬ 99 < v by omega), List.nil_append])
  · skip
    refine w_aln rfl ?_
    refine w_bp ?_
    refine w_iln rfl ?_
    refine w_bp ?_
    refine w_div (by decide) ?_
    intro y1 hy1 ey1
    obtain rfl : y1 = v / 100 := pt_d100 v0 v1 ey1
    refine w_bp ?_
    refine w_rem (by decide) ?_
    intro y2 hy2 ey2
    obtain rfl : y2 = v / 100 % 10 := pt_r10 (by omega) (by omega) ey2
    rw [show v / 100 % 10 = v / 100 by omega]
    refine w_add ⟨by omega, by omega⟩ ?_
    refine w_cv (st := []) rfl g rfl (Nat.le_of_ble_eq_true rfl) (fun kk h => h) (r_putByte (d := d) g gb rr hS (by omega) (by omega) (by omega) (fun M9 h9 => ?_))
    exact s2 _ M9 _ _ h9 (by rw [List.length_append]; show L.length + 1 + 1 < 300; omega) (by unfold pt_n; rw [if_pos (show 99 < v by omega), List.append_assoc])
theorem r_putNumberX12 (g : G m = (1012, 0)) (gb : G mb = (67101, 400)) (rr : M0.2.2 m 50 = some mb) (hS : pt_S m 51 mb M0 L M) (hl : L.length + 3 ≤ 400) (v0 : 0 ≤ v) (v1 : v ≤ 999) (h : ∀ M', pt_S m 51 mb M0 (L ++ pt_n v) M' → Q none G M') : mj_R mj_tab (d + 2) 231 [.inr (.inr (some m)), .inl v] G M Q := by
  have s3 : ∀ (L' : List Int) (M' : mj_M) (cb sb : Nat), pt_S m 51 mb M0 L' M' → L'.length < 400 → L' ++ [48 + v % 10] = L ++ pt_n v → wz (d + 1) mt_X12_putNumber.2.2.2.2.1 Q (mt_X12_putNumber.2.2.2.2.1.drop 22) [some (.inr (.inr (some m))), some (.inl v)] [] G M' cb sb := fun L' M' cb sb h1 h2 h3 => by
    refine w_aln rfl ?_
    refine w_bp ?_
    refine w_iln rfl ?_
    refine w_bp ?_
    refine w_rem (by decide) ?_
    intro y2 hy2 ey2
    obtain rfl : y2 = v % 10 := pt_r10 v0 v1 ey2
    refine w_add ⟨by omega, by omega⟩ ?_
    refine w_cv (st := []) rfl g rfl (Nat.le_of_ble_eq_true rfl) (fun kk h => h) (r_put12 (d := d) g gb rr h1 (by omega) (by omega) (by omega) (fun M9 h9 => ?_))
    rw [h3] at h9
    exact w_ret (h M9 h9)
  have s2 : ∀ (L' : List Int) (M' : mj_M) (cb sb : Nat), pt_S m 51 mb M0 L' M' → L'.length + 1 < 400 → L' ++ ((if 9 < v then [48 + v / 10 % 10] else []) ++ [48 + v % 10]) = L ++ pt_n v → wz (d + 1) mt_X12_putNumber.2.2.2.2.1 Q (mt_X12_putNumber.2.2.2.2.1.drop 10) [some (.inr (.inr (some m))), some (.inl v)] [] G M' cb sb := fun L' M' cb sb h1 h2 h3 => by
    refine w_iln rfl ?_
    refine w_bp ?_
    refine w_cmlt (fun c => ?_) (fun c => ?_)
    · rw [if_neg (by omega), List.nil_append] at h3
      exact s3 L' M' _ _ h1 (by omega) h3
    · rw [if_pos (by omega), ← List.append_assoc] at h3
      refine w_aln rfl ?_
      refine w_bp ?_
      refine w_iln rfl ?_
      refine w_bp ?_
      refine w_div (by decide) ?_
      intro y1 hy1 ey1
      obtain rfl : y1 = v / 10 := pt_d10 v0 v1 ey1
      refine w_bp ?_
      refine w_rem (by decide) ?_
      intro y2 hy2 ey2
      obtain rfl : y2 = v / 10 % 10 := pt_r10 (by omega) (by omega) ey2
      refine w_add ⟨by omega, by omega⟩ ?_
      refine w_cv (st := []) rfl g rfl (Nat.le_of_ble_eq_true rfl) (fun kk h => h) (r_put12 (d := d) g gb rr h1 (by omega) (by omega) (by omega) (fun M9 h9 => ?_))
      exact s3 _ M9 _ _ h9 (by rw [List.length_append]; show L'.length + 1 < 400; omega) h3
  refine ⟨Nat.le_of_ble_eq_true rfl, ?_⟩
  show wz (d + 1) mt_X12_putNumber.2.2.2.2.1 Q mt_X12_putNumber.2.2.2.2.1 [some (.inr (.inr (some m))), some (.inl v)] [] G M _ _
  refine w_iln rfl ?_
  refine w_bp ?_
  refine w_cmlt (fun c => ?_) (fun c => ?_)
  · exact s2 L M _ _ hS (by omega) (by unfold pt_n; rw [if_neg (show ¬ 99 < v by omega), List.nil_append])
  · skip
    refine w_aln rfl ?_
    refine w_bp ?_
    refine w_iln rfl ?_
    refine w_bp ?_
    refine w_div (by decide) ?_
    intro y1 hy1 ey1
    obtain rfl : y1 = v / 100 := pt_d100 v0 v1 ey1
    refine w_add ⟨by omega, by omega⟩ ?_
    refine w_cv (st := []) rfl g rfl (Nat.le_of_ble_eq_true rfl) (fun kk h => h) (r_put12 (d := d) g gb rr hS (by omega) (by omega) (by omega) (fun M9 h9 => ?_))
    exact s2 _ M9 _ _ h9 (by rw [List.length_append]; show L.length + 1 + 1 < 400; omega) (by unfold pt_n; rw [if_pos (show 99 < v by omega), List.append_assoc])
end PTN
