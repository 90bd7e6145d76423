/-! ===== bytes put one after another ===== -/
/-- o's field f counts the bytes L that lie in b -/
def pt_S (o f b : Nat) (M0 : mj_M) (L : List Int) (M : mj_M) : Prop := M.2 = M0.2 ∧ (∀ a, a ≠ o → a ≠ b → M.1 a = M0.1 a) ∧ (∀ k, k ≠ f → M.1 o k = M0.1 o k) ∧ M.1 o f = (L.length : Int) ∧ ∀ j : Nat, j < L.length → M.1 b j = L.getD j 0
theorem pt_i2b {x : Int} (h0 : 0 ≤ x) (h1 : x ≤ 127) : ((Int32.ofInt x).toInt8.toInt32).toInt = x := by
  have h : ∀ k : Fin 128, ((Int32.ofInt (k.val : Int)).toInt8.toInt32).toInt = (k.val : Int) := by decide +kernel
  have q := h ⟨x.toNat, by omega⟩
  dsimp only at q
  rw [show ((x.toNat : Nat) : Int) = x by omega] at q
  exact q
theorem pt_nb {x : Int} (h0 : 0 ≤ x) (h1 : x ≤ 127) : mj_nb x = x := by
  have h : ∀ k : Fin 128, mj_nb (k.val : Int) = (k.val : Int) := by decide +kernel
  have q := h ⟨x.toNat, by omega⟩
  dsimp only at q
  rw [show ((x.toNat : Nat) : Int) = x by omega] at q
  exact q
section PT
variable {G : mj_G} {M M0 : mj_M} {o f b x xb m mb : Nat} {L : List Int} {v : Int} {Q : mj_P} {d : Nat}
theorem pt_S.put (h : pt_S o f b M0 L M) (nob : o ≠ b) : pt_S o f b M0 (L ++ [v]) (mj_p0 (mj_p0 M b L.length v) o f ((L.length : Int) + 1)) := by
  obtain ⟨h1, h2, h3, h4, h5⟩ := h
  refine ⟨h1, fun a a1 a2 => (wz_c a1).trans ((wz_c a2).trans (h2 a a1 a2)), fun k hk => (hn_n (Or.inr hk)).trans ((congrFun (wz_c nob) k).trans (h3 k hk)), hn_s.trans (by rw [List.length_append]; rfl), fun j hj => ?_⟩
  rw [List.length_append] at hj
  have hj2 : j < L.length + 1 := hj
  refine (congrFun (wz_c nob.symm) j).trans ?_
  by_cases c : j < L.length
  · refine (hn_n (Or.inr (by omega))).trans ((h5 j c).trans ?_)
    rw [List.getD_eq_getElem?_getD, List.getD_eq_getElem?_getD, List.getElem?_append_left c]
  · have e : j = L.length := by omega
    rw [e, List.getD_eq_getElem?_getD, List.getElem?_append_right (Nat.le_refl _), Nat.sub_self]
    exact hn_s
theorem pt_S.rf (h : pt_S o f b M0 L M) {a k c : Nat} (e : M0.2.2 a k = some c) : M.2.2 a k = some c := by rw [h.1]; exact e
theorem r_putByte (gx : G x = (1011, 0)) (gb : G xb = (49101, 300)) (x10 : M0.2.2 x 10 = some xb) (hS : pt_S x 11 xb M0 L M) (hl : L.length < 300) (v0 : 0 ≤ v) (v1 : v ≤ 127) (h : ∀ M', pt_S x 11 xb M0 (L ++ [v]) M' → Q none G M') : mj_R mj_tab (d + 1) 141 [.inr (.inr (some x)), .inl v] G M Q := by
  have nob : x ≠ xb := hn_ne gx gb (by decide)
  refine ⟨Nat.le_of_ble_eq_true rfl, ?_⟩
  show wz d mt_X11_putByte.2.2.2.2.1 Q mt_X11_putByte.2.2.2.2.1 [some (.inr (.inr (some x))), some (.inl v)] [] G M _ _
  refine w_aln rfl ?_
  refine w_gi gx rfl (by decide) rfl hS.2.2.2.1 ?_
  refine w_sp ?_
  refine w_cmge (fun c => by exfalso; omega) (fun c => ?_)
  refine w_aln rfl ?_
  refine w_gr gx rfl (by decide) rfl (hS.rf x10) ?_
  refine w_aln rfl ?_
  refine w_gi gx rfl (by decide) rfl hS.2.2.2.1 ?_
  refine w_iln rfl ?_
  refine w_i2b ?_
  intro z hz ez
  rw [show z = v from ez.trans (pt_i2b v0 v1)]
  refine w_bast gb rfl (by decide) (by omega) (by show (L.length : Int) < ((300 : Nat) : Int); omega) ?_
  rw [pt_nb v0 v1, Int.toNat_natCast]
  refine w_aln rfl ?_
  refine w_dupr ?_
  refine w_gi gx rfl (by decide) rfl ((congrFun (wz_c nob) 11).trans hS.2.2.2.1) ?_
  refine w_ic ?_
  refine w_add ⟨by omega, by omega⟩ ?_
  refine w_pi gx rfl (by decide) rfl (fun q => by cases q) ?_
  exact w_ret (h _ (hS.put nob))
theorem r_put12 (gm : G m = (1012, 0)) (gb : G mb = (67101, 400)) (m50 : M0.2.2 m 50 = some mb) (hS : pt_S m 51 mb M0 L M) (hl : L.length < 400) (v0 : 0 ≤ v) (v1 : v ≤ 127) (h : ∀ M', pt_S m 51 mb M0 (L ++ [v]) M' → Q none G M') : mj_R mj_tab (d + 1) 229 [.inr (.inr (some m)), .inl v] G M Q := by
  have nob : m ≠ mb := hn_ne gm gb (by decide)
  refine ⟨Nat.le_of_ble_eq_true rfl, ?_⟩
  show wz d mt_X12_put.2.2.2.2.1 Q mt_X12_put.2.2.2.2.1 [some (.inr (.inr (some m))), some (.inl v)] [] G M _ _
  refine w_aln rfl ?_
  refine w_gr gm rfl (by decide) rfl (hS.rf m50) ?_
  refine w_aln rfl ?_
  refine w_gi gm rfl (by decide) rfl hS.2.2.2.1 ?_
  refine w_iln rfl ?_
  refine w_i2b ?_
  intro z hz ez
  rw [show z = v from ez.trans (pt_i2b v0 v1)]
  refine w_bast gb rfl (by decide) (by omega) (by show (L.length : Int) < ((400 : Nat) : Int); omega) ?_
  rw [pt_nb v0 v1, Int.toNat_natCast]
  refine w_aln rfl ?_
  refine w_dupr ?_
  refine w_gi gm rfl (by decide) rfl ((congrFun (wz_c nob) 51).trans hS.2.2.2.1) ?_
  refine w_ic ?_
  refine w_add ⟨by omega, by omega⟩ ?_
  refine w_pi gm rfl (by decide) rfl (fun q => by cases q) ?_
  exact w_ret (h _ (hS.put nob))
end PT
