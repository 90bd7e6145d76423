section
/-! ===== trial YEARS of the reference (laid by a program) ===== -/
theorem r_thk {G : mj_G} {M0 : mj_M} {s m bf : Nat} {Q : mj_P} {d : Nat} (gm : G m = (1012, 0)) (gs : G s = (51100, 537)) (gb : G bf = (64100, 135)) (m6 : M0.2.2 m 6 = some s) (m45 : M0.2.2 m 45 = some bf) : ∀ (n : Nat) (i : Int) (BF : Nat → Int) (M : mj_M) (cb sb : Nat), i + n = 135 → 0 ≤ i → tk_R bf M0 BF M → (∀ k : Nat, k < 135 → (k : Int) < i → BF k = M0.1 s (221 + k)) → (∀ M, M.2 = M0.2 → (∀ a, a ≠ bf → M.1 a = M0.1 a) → (∀ k, k < 135 → M.1 bf k = M0.1 s (221 + k)) → Q none G M) → wz (d + 1) mt_X12_thinks.2.2.2.2.1 Q (mt_X12_thinks.2.2.2.2.1.drop 2) [some (.inr (.inr (some m))), some (.inl i)] [] G M cb sb := by
  have nsb : s ≠ bf := hn_ne gs gb (by decide)
  intro n
  induction n with
  | zero =>
    intro i BF M cb sb e i0 hC hz h
    obtain rfl : i = 135 := by omega
    refine w_iln rfl ?_
    refine w_sp ?_
    refine w_cmge (fun c1 => ?_) (fun c1 => ?_)
    · skip
      exact w_ret (h _ hC.1 hC.2.1 (fun k hk => (hC.2.2 k (by omega)).trans (hz k hk (by omega))))
    · exfalso; omega
  | succ n ih =>
    intro i BF M cb sb e i0 hC hz h
    refine w_iln rfl ?_
    refine w_sp ?_
    refine w_cmge (fun c1 => ?_) (fun c1 => ?_)
    · exfalso; omega
    · skip
      refine w_aln rfl ?_
      refine w_gr gm rfl (by decide) rfl (hC.r (m45)) ?_
      refine w_iln rfl ?_
      refine w_aln rfl ?_
      refine w_gr gm rfl (by decide) rfl (hC.r (m6)) ?_
      refine w_sp ?_
      refine w_iln rfl ?_
      refine w_add ⟨by show (-2147483648 : Int) ≤ 221 + i; omega, by show 221 + i < (2147483648 : Int); omega⟩ ?_
      refine w_iald (v := (M0.1 s (221 + i.toNat))) gs rfl (by show (0 : Int) ≤ 221 + i; omega) (by show 221 + i < ((537 : Nat) : Int); omega) ((congrFun (hC.2.1 s nsb) _).trans (congrArg (M0.1 s) (show (221 + i).toNat = 221 + i.toNat by omega))) ?_
      refine w_iast gb rfl (by decide) (by show (0 : Int) ≤ i; omega) (by show i < ((135 : Nat) : Int); omega) ?_
      have hC2 := hC.hW (j := i.toNat) (z := (M0.1 s (221 + i.toNat))) rfl
      refine w_ii rfl ⟨by show (-2147483648 : Int) ≤ i + 1; omega, by show i + 1 < (2147483648 : Int); omega⟩ ?_
      show wz _ _ _ _ [some (.inr (.inr (some m))), some (.inl (i + 1))] _ _ _ _ _
      refine w_goto ?_
      refine ih (i + 1) _ _ _ _ (by omega) (by omega) hC2 (fun k hk hki => ?_) h
      by_cases e9 : k = i.toNat
      · rw [e9]; exact rv_up_s
      · rw [rv_up_n e9]; exact hz k hk (by omega)
theorem r_X12_thinksC {G : mj_G} {M0 : mj_M} {s m bf : Nat} {Q : mj_P} {d : Nat} (gm : G m = (1012, 0)) (gs : G s = (51100, 537)) (gb : G bf = (64100, 135)) (m6 : M0.2.2 m 6 = some s) (m45 : M0.2.2 m 45 = some bf) (h : ∀ M, M.2 = M0.2 → (∀ a, a ≠ bf → M.1 a = M0.1 a) → (∀ k, k < 135 → M.1 bf k = M0.1 s (221 + k)) → Q none G M) : mj_R mj_tab (d + 2) 247 [.inr (.inr (some m))] G M0 Q := by
  refine ⟨Nat.le_of_ble_eq_true rfl, ?_⟩
  show wz (d + 1) mt_X12_thinks.2.2.2.2.1 _ mt_X12_thinks.2.2.2.2.1 [some (.inr (.inr (some m))), none] [] G M0 _ _
  refine w_ic ?_
  refine w_isn ?_
  show wz _ _ _ _ [some (.inr (.inr (some m))), some (.inl 0)] _ _ _ _ _
  exact r_thk (d := d) gm gs gb m6 m45 135 0 (M0.1 bf) M0 _ _ (by decide) (by decide) ⟨rfl, fun _ _ => rfl, fun _ _ => rfl⟩ (fun k _ q => by omega) h
theorem r_fgt {G : mj_G} {M0 : mj_M} {s m bf : Nat} {Q : mj_P} {d : Nat} (gm : G m = (1012, 0)) (gs : G s = (51100, 537)) (gb : G bf = (64100, 135)) (m6 : M0.2.2 m 6 = some s) (m45 : M0.2.2 m 45 = some bf) : ∀ (n : Nat) (i : Int) (SF : Nat → Int) (M : mj_M) (cb sb : Nat), i + n = 135 → 0 ≤ i → tk_R s M0 SF M → (∀ k : Nat, k < 537 → (221 ≤ k ∧ (k : Int) < 221 + i → SF k = M0.1 bf (k - 221)) ∧ (k < 221 ∨ 221 + i ≤ (k : Int) → SF k = M0.1 s k)) → (∀ M, M.2 = M0.2 → (∀ a, a ≠ s → M.1 a = M0.1 a) → (∀ k, k < 537 → (221 ≤ k ∧ k < 356 → M.1 s k = M0.1 bf (k - 221)) ∧ (k < 221 ∨ 356 ≤ k → M.1 s k = M0.1 s k)) → Q none G M) → wz (d + 1) mt_X12_forgets.2.2.2.2.1 Q (mt_X12_forgets.2.2.2.2.1.drop 2) [some (.inr (.inr (some m))), some (.inl i)] [] G M cb sb := by
  have nbs : bf ≠ s := hn_ne gb gs (by decide)
  intro n
  induction n with
  | zero =>
    intro i SF M cb sb e i0 hC hz h
    obtain rfl : i = 135 := by omega
    refine w_iln rfl ?_
    refine w_sp ?_
    refine w_cmge (fun c1 => ?_) (fun c1 => ?_)
    · skip
      exact w_ret (h _ hC.1 hC.2.1 (fun k hk => ⟨fun q => (hC.2.2 k hk).trans ((hz k hk).1 (by omega)), fun q => (hC.2.2 k hk).trans ((hz k hk).2 (by omega))⟩))
    · exfalso; omega
  | succ n ih =>
    intro i SF M cb sb e i0 hC hz h
    refine w_iln rfl ?_
    refine w_sp ?_
    refine w_cmge (fun c1 => ?_) (fun c1 => ?_)
    · exfalso; omega
    · skip
      refine w_aln rfl ?_
      refine w_gr gm rfl (by decide) rfl (hC.r (m6)) ?_
      refine w_sp ?_
      refine w_iln rfl ?_
      refine w_add ⟨by show (-2147483648 : Int) ≤ 221 + i; omega, by show 221 + i < (2147483648 : Int); omega⟩ ?_
      refine w_aln rfl ?_
      refine w_gr gm rfl (by decide) rfl (hC.r (m45)) ?_
      refine w_iln rfl ?_
      refine w_iald (v := (M0.1 bf i.toNat)) gb rfl (by show (0 : Int) ≤ i; omega) (by show i < ((135 : Nat) : Int); omega) ((congrFun (hC.2.1 bf nbs) _)) ?_
      refine w_iast gs rfl (by decide) (by show (0 : Int) ≤ 221 + i; omega) (by show 221 + i < ((537 : Nat) : Int); omega) ?_
      have hC2 := hC.hW (j := (221 + i).toNat) (z := (M0.1 bf i.toNat)) rfl
      refine w_ii rfl ⟨by show (-2147483648 : Int) ≤ i + 1; omega, by show i + 1 < (2147483648 : Int); omega⟩ ?_
      show wz _ _ _ _ [some (.inr (.inr (some m))), some (.inl (i + 1))] _ _ _ _ _
      refine w_goto ?_
      refine ih (i + 1) _ _ _ _ (by omega) (by omega) hC2 (fun k hk => ?_) h
      by_cases e9 : k = 221 + i.toNat
      · exact ⟨fun _ => (tk_up (by omega)).trans (congrArg (M0.1 bf) (by omega)), fun q => by omega⟩
      · exact ⟨fun q => (rv_up_n (by omega)).trans ((hz k hk).1 (by omega)), fun q => (rv_up_n (by omega)).trans ((hz k hk).2 (by omega))⟩
theorem r_X12_forgetsC {G : mj_G} {M0 : mj_M} {s m bf : Nat} {Q : mj_P} {d : Nat} (gm : G m = (1012, 0)) (gs : G s = (51100, 537)) (gb : G bf = (64100, 135)) (m6 : M0.2.2 m 6 = some s) (m45 : M0.2.2 m 45 = some bf) (h : ∀ M, M.2 = M0.2 → (∀ a, a ≠ s → M.1 a = M0.1 a) → (∀ k, k < 537 → (221 ≤ k ∧ k < 356 → M.1 s k = M0.1 bf (k - 221)) ∧ (k < 221 ∨ 356 ≤ k → M.1 s k = M0.1 s k)) → Q none G M) : mj_R mj_tab (d + 2) 189 [.inr (.inr (some m))] G M0 Q := by
  refine ⟨Nat.le_of_ble_eq_true rfl, ?_⟩
  show wz (d + 1) mt_X12_forgets.2.2.2.2.1 _ mt_X12_forgets.2.2.2.2.1 [some (.inr (.inr (some m))), none] [] G M0 _ _
  refine w_ic ?_
  refine w_isn ?_
  show wz _ _ _ _ [some (.inr (.inr (some m))), some (.inl 0)] _ _ _ _ _
  exact r_fgt (d := d) gm gs gb m6 m45 135 0 (M0.1 s) M0 _ _ (by decide) (by decide) ⟨rfl, fun _ _ => rfl, fun _ _ => rfl⟩ (fun k hk => ⟨fun q => by omega, fun _ => rfl⟩) h
/-- what a call that thinks and forgets leaves -/
def rq_K (s m bf : Nat) (M M' : mj_M) : Prop := M'.2 = M.2 ∧ (∀ a, a ≠ s → a ≠ m → a ≠ bf → M'.1 a = M.1 a) ∧ (∀ j, j < 537 → M'.1 s j = M.1 s j) ∧ (∀ k, k ≠ 0 → k ≠ 29 → k ≠ 30 → k ≠ 31 → k ≠ 47 → M'.1 m k = M.1 m k)
/-- while it thinks: all but the YEAR is as it was -/
def rq_M (s m bf : Nat) (M M' : mj_M) : Prop := M'.2 = M.2 ∧ (∀ a, a ≠ s → a ≠ m → a ≠ bf → M'.1 a = M.1 a) ∧ (∀ j, j < 221 ∨ (356 ≤ j ∧ j < 537) → M'.1 s j = M.1 s j) ∧ (∀ k, k ≠ 0 → k ≠ 29 → k ≠ 30 → k ≠ 31 → k ≠ 47 → M'.1 m k = M.1 m k) ∧ (∀ k, k < 135 → M'.1 bf k = M.1 s (221 + k))
theorem ye_sh0 {i : Int} : Int32.ofInt (Int32.ofInt 0 <<< (Int32.ofInt i &&& 31)).toInt = Int32.ofInt 0 := by
  rw [Int32.ofInt_toInt, show Int32.ofInt 0 = 0 from rfl]
  first
    | exact Int32.zero_shiftLeft
    | exact Int32.zero_shiftLeft _
    | (generalize Int32.ofInt i &&& 31 = y; apply Int32.toBitVec_inj.mp; rw [Int32.toBitVec_shiftLeft]; exact BitVec.zero_shiftLeft _)
    | (generalize Int32.ofInt i &&& 31 = y; apply Int32.toBitVec_inj.mp; rw [Int32.toBitVec_shiftLeft]; simp)
section YK
variable {G : mj_G} {M M1 M2 M' : mj_M} {s m bf : Nat} {H : Nat → Int} {st : ye_T} {z : Int} {a b k t w j : Nat}
theorem rq_M.yr (h : rq_M s m bf M M1) (hY : rq_Y s m st M1 M') (nbs : bf ≠ s) (nbm : bf ≠ m) : rq_M s m bf M M' := by
  obtain ⟨a1, a2, a3, a4, a5⟩ := h
  obtain ⟨b1, b2, b3, b4, -⟩ := hY
  exact ⟨b1.trans a1, fun a h1 h2 h3 => (b2 a h1 h2).trans (a2 a h1 h2 h3), fun j hj => (b4 j hj).trans (a3 j hj), fun k k0 k1 k2 k3 k4 => (b3 k k1 k2 k3 k4).trans (a4 k k0 k1 k2 k3 k4), fun k hk => (congrFun (b2 bf nbs nbm) k).trans (a5 k hk)⟩
theorem rq_M.end (h : rq_M s m bf M M1) (nbs : bf ≠ s) (nms : m ≠ s) (e2 : M'.2 = M1.2) (e1 : ∀ a, a ≠ s → M'.1 a = M1.1 a) (e : ∀ k, k < 537 → (221 ≤ k ∧ k < 356 → M'.1 s k = M1.1 bf (k - 221)) ∧ (k < 221 ∨ 356 ≤ k → M'.1 s k = M1.1 s k)) : rq_K s m bf M M' := by
  obtain ⟨a1, a2, a3, a4, a5⟩ := h
  refine ⟨e2.trans a1, fun a h1 h2 h3 => (e1 a h1).trans (a2 a h1 h2 h3), fun j hj => ?_, fun k k0 k1 k2 k3 k4 => (congrFun (e1 m nms) k).trans (a4 k k0 k1 k2 k3 k4)⟩
  by_cases c : 221 ≤ j ∧ j < 356
  · rw [(e j hj).1 c, a5 (j - 221) (by omega), show 221 + (j - 221) = j by omega]
  · rw [(e j hj).2 (by omega)]; exact a3 j (by omega)
theorem rq_Y.R (h : rq_Y s m st M M') (e : j = 232 + 11 * t + w) (ht : t < 8) (hw : w < 11) : M'.1 s j = st.2.2.2.2 t w := by rw [e]; exact h.2.2.2.2.2.2.2 t w ht hw
theorem rq_Y.g (h : rq_Y s m st M M') (h1 : 222 ≤ j) (h2 : j < 232) : M'.1 s j = st.1 j := h.2.2.2.2.2.1 j h1 h2
theorem rq_M.L (h : rq_M s m bf M M1) (hL : yq_L G M s m H) : yq_L G M1 s m H := ⟨hL.gm, hL.gs, by rw [h.1]; exact hL.m6, fun j hj => (h.2.2.1 j (Or.inl hj)).trans (hL.vn hj), (h.2.2.2.1 32 (by decide) (by decide) (by decide) (by decide) (by decide)).trans hL.lk⟩
end YK
def ye_y0 (H : Nat → Int) : ye_T := ye_it H (fun _ => 0) (ye_fr H) 12
def ye_yd (H : Nat → Int) (z : Int) : ye_T := ye_it H (ye_xs z) (ye_fr H) 12
/-- bits, one a TOWN -/
def ye_ob (f : Nat → Int) : Nat → Int
  | 0 => 0
  | k + 1 => (Int32.ofInt (ye_ob f k) ||| Int32.ofInt (Int32.ofInt (f k) <<< (Int32.ofInt (k : Int) &&& 31)).toInt).toInt
def lr_shoresOf (H : Nat → Int) : Int := if H 0 = 0 then -1 else ye_ob (fun t => (ye_y0 H).2.2.2.2 t 3) (H 0).toNat
def lr_thirsty (H : Nat → Int) : Int := if H 0 = 0 then -1 else ye_ob (fun t => if (ye_y0 H).2.2.2.2 t 6 < H (8 + 9 * t) then 1 else 0) (H 0).toNat
def lr_drawn (H : Nat → Int) (z : Int) : Int := if H 0 = 0 then -10001 else (ye_yd H z).1 224
theorem r_shoresOfB {G : mj_G} {M M2 M3 : mj_M} {s m bf : Nat} {H : Nat → Int} {Q : mj_P} {d : Nat} (hL : yq_L G M s m H) (h0 : 0 ≤ H 0 ∧ H 0 ≤ 8) (hM2 : rq_M s m bf M M2) (hY : rq_Y s m (ye_y0 H) M3 M2) : ∀ (n : Nat) (i : Int) (cb sb : Nat), i + n = H 0 → 0 ≤ i → wz (d + 2) mt_X12_shoresOf.2.2.2.2.1 Q (mt_X12_shoresOf.2.2.2.2.1.drop 36) [some (.inr (.inr (some m))), some (.inl (ye_ob (fun t => (ye_y0 H).2.2.2.2 t 3) (H 0).toNat)), some (.inl (H 0))] [] G M2 cb sb → wz (d + 2) mt_X12_shoresOf.2.2.2.2.1 Q (mt_X12_shoresOf.2.2.2.2.1.drop 19) [some (.inr (.inr (some m))), some (.inl (ye_ob (fun t => (ye_y0 H).2.2.2.2 t 3) i.toNat)), some (.inl i)] [] G M2 cb sb := by
  have m62 : M2.2.2 m 6 = some s := by rw [hM2.1]; exact hL.m6
  intro n
  induction n with
  | zero =>
    intro i cb sb e i0 h
    obtain rfl : i = H 0 := by omega
    refine w_iln rfl ?_
    refine w_aln rfl ?_
    refine w_gr hL.gm rfl (by decide) rfl (m62) ?_
    refine w_ic ?_
    refine w_iald (v := (H 0)) hL.gs rfl (by show (0 : Int) ≤ 0; omega) (by show 0 < ((537 : Nat) : Int); omega) ((congrArg (M2.1 s) (show (0 : Int).toNat = 0 by omega)).trans ((hM2.2.2.1 (0) (Or.inl (by omega))).trans (hL.vn (by omega)))) ?_
    refine w_cmge (fun c1 => ?_) (fun c1 => ?_)
    · skip
      exact h
    · exfalso; omega
  | succ n ih =>
    intro i cb sb e i0 h
    have et : (i + 1).toNat = i.toNat + 1 := by omega
    have ei : ((i.toNat : Nat) : Int) = i := by omega
    refine w_iln rfl ?_
    refine w_aln rfl ?_
    refine w_gr hL.gm rfl (by decide) rfl (m62) ?_
    refine w_ic ?_
    refine w_iald (v := (H 0)) hL.gs rfl (by show (0 : Int) ≤ 0; omega) (by show 0 < ((537 : Nat) : Int); omega) ((congrArg (M2.1 s) (show (0 : Int).toNat = 0 by omega)).trans ((hM2.2.2.1 (0) (Or.inl (by omega))).trans (hL.vn (by omega)))) ?_
    refine w_cmge (fun c1 => ?_) (fun c1 => ?_)
    · exfalso; omega
    · skip
      refine w_iln rfl ?_
      refine w_aln rfl ?_
      refine w_iln rfl ?_
      refine w_ic ?_
      refine w_cv (st := [.inl (ye_ob (fun t => (ye_y0 H).2.2.2.2 t 3) i.toNat)]) rfl hL.gm rfl (Nat.le_of_ble_eq_true rfl) (fun kk h => h) ⟨Nat.le_of_ble_eq_true rfl, ?_⟩
      show wz (d + 1) mt_X12_of.2.2.2.2.1 _ mt_X12_of.2.2.2.2.1 [some (.inr (.inr (some m))), some (.inl i), some (.inl 3)] [] _ _ _ _
      refine w_aln rfl ?_
      refine w_gr hL.gm rfl (by decide) rfl (m62) ?_
      refine w_sp ?_
      refine w_bp ?_
      refine w_iln rfl ?_
      refine w_mul ⟨by show (-2147483648 : Int) ≤ 11 * i; omega, by show 11 * i < (2147483648 : Int); omega⟩ ?_
      refine w_add ⟨by show (-2147483648 : Int) ≤ 232 + (11 * i); omega, by show 232 + (11 * i) < (2147483648 : Int); omega⟩ ?_
      refine w_iln rfl ?_
      refine w_add ⟨by show (-2147483648 : Int) ≤ (232 + (11 * i)) + 3; omega, by show (232 + (11 * i)) + 3 < (2147483648 : Int); omega⟩ ?_
      refine w_iald (v := ((ye_y0 H).2.2.2.2 i.toNat 3)) hL.gs rfl (by show (0 : Int) ≤ (232 + (11 * i)) + 3; omega) (by show (232 + (11 * i)) + 3 < ((537 : Nat) : Int); omega) (hY.R (w := 3) (by show ((232 + (11 * i)) + 3).toNat = 232 + 11 * i.toNat + 3; omega) (by show i.toNat < 8; omega) (by decide)) ?_
      refine w_iret (fun q => by cases q) ?_
      refine w_iln rfl ?_
      refine w_shl ?_
      intro z2 hz2 ez2
      refine w_or ?_
      intro z3 hz3 ez3
      refine w_isn ?_
      show wz _ _ _ _ [some (.inr (.inr (some m))), some (.inl z3), some (.inl i)] _ _ _ _ _
      refine w_ii rfl ⟨by show (-2147483648 : Int) ≤ i + 1; omega, by show i + 1 < (2147483648 : Int); omega⟩ ?_
      show wz _ _ _ _ [some (.inr (.inr (some m))), some (.inl z3), some (.inl (i + 1))] _ _ _ _ _
      refine w_goto ?_
      have ez : z3 = ye_ob (fun t => (ye_y0 H).2.2.2.2 t 3) (i + 1).toNat := by
        rw [et]; show _ = (Int32.ofInt (ye_ob (fun t => (ye_y0 H).2.2.2.2 t 3) i.toNat) ||| Int32.ofInt (Int32.ofInt ((fun t => (ye_y0 H).2.2.2.2 t 3) i.toNat) <<< (Int32.ofInt ((i.toNat : Nat) : Int) &&& 31)).toInt).toInt
        rw [ei]
        rw [ez3, ez2]
      rw [ez]
      exact ih (i + 1) _ _ (by omega) (by omega) h
theorem r_X12_shoresOfC {G : mj_G} {M : mj_M} {s m bf : Nat} {H : Nat → Int} {Q : mj_P} {d : Nat} (hL : yq_L G M s m H) (gb : G bf = (64100, 135)) (m45 : M.2.2 m 45 = some bf) (hH : ye_H2 H) (h : ∀ M1, rq_K s m bf M M1 → Q (some (.inl (lr_shoresOf H))) G M1) : mj_R mj_tab (d + 6) 241 [.inr (.inr (some m))] G M Q := by
  have nbs : bf ≠ s := hn_ne gb hL.gs (by decide)
  have nbm : bf ≠ m := hn_ne gb hL.gm (by decide)
  have nms : m ≠ s := hL.sm.symm
  have h0 := hH.1.1
  refine ⟨Nat.le_of_ble_eq_true rfl, ?_⟩
  show wz (d + 5) mt_X12_shoresOf.2.2.2.2.1 _ mt_X12_shoresOf.2.2.2.2.1 [some (.inr (.inr (some m))), none, none] [] G M _ _
  refine w_aln rfl ?_
  refine w_ic ?_
  refine w_pi hL.gm rfl (by decide) rfl (fun q => by cases q) ?_
  refine w_aln rfl ?_
  refine w_gr hL.gm rfl (by decide) rfl (hL.m6) ?_
  refine w_ic ?_
  refine w_iald (v := (H 0)) hL.gs rfl (by show (0 : Int) ≤ 0; omega) (by show 0 < ((537 : Nat) : Int); omega) ((congrFun (wz_c hL.sm) _).trans ((congrArg (M.1 s) (show (0 : Int).toNat = 0 by omega)).trans (hL.vn (by omega)))) ?_
  refine w_ifne (fun c1 => ?_) (fun c1 => ?_)
  · skip
    refine w_aln rfl ?_
    refine w_cv (st := []) rfl hL.gm rfl (Nat.le_of_ble_eq_true rfl) (fun kk h => h) (r_X12_thinksC (M0 := mj_p0 M m 0 0) (d := d + 3) hL.gm hL.gs gb hL.m6 m45 (fun M1 t1 t2 t3 => ?_))
    have hM : rq_M s m bf M M1 := ⟨t1, fun a a1 a2 a3 => (t2 a a3).trans (wz_c a2), fun j _ => (congrFun (t2 s nbs.symm) j).trans (congrFun (wz_c hL.sm) j), fun k k0 _ _ _ _ => (congrFun (t2 m nbm.symm) k).trans (hn_n (Or.inr k0)), fun k hk => (t3 k hk).trans (congrFun (wz_c hL.sm) _)⟩
    have m6 : M1.2.2 m 6 = some s := by rw [t1]; exact hL.m6
    refine w_aln rfl ?_
    refine w_ic ?_
    refine w_cv (st := []) rfl hL.gm rfl (Nat.le_of_ble_eq_true rfl) (fun kk h => h) (r_X12_wholeYear0 (d := d) (hM.L hL) hH (fun M2 hY => ?_))
    have hM2 := hM.yr hY nbs nbm
    have m62 : M2.2.2 m 6 = some s := by rw [hM2.1]; exact hL.m6
    refine w_ic ?_
    refine w_isn ?_
    show wz _ _ _ _ [some (.inr (.inr (some m))), some (.inl 0), none] _ _ _ _ _
    refine w_ic ?_
    refine w_isn ?_
    show wz _ _ _ _ [some (.inr (.inr (some m))), some (.inl 0), some (.inl 0)] _ _ _ _ _
    refine r_shoresOfB (d := d + 3) hL h0 hM2 hY (H 0).toNat 0 _ _ (by omega) (by decide) ?_
    refine w_aln rfl ?_
    refine w_cv (st := []) rfl hL.gm rfl (Nat.le_of_ble_eq_true rfl) (fun kk h => h) (r_X12_forgetsC (M0 := M2) (d := d + 3) hL.gm hL.gs gb (by rw [hM2.1]; exact hL.m6) (by rw [hM2.1]; exact m45) (fun M9 f1 f2 f3 => ?_))
    have hK := hM2.end nbs nms f1 f2 f3
    refine w_iln rfl ?_
    exact w_iret (fun q => by cases q) (by have q := h _ hK; unfold lr_shoresOf at q; rw [if_neg (by omega)] at q; exact q)
  · skip
    refine w_ic ?_
    have hK : rq_K s m bf M (mj_p0 M m 0 0) := ⟨rfl, fun a _ a2 _ => wz_c a2, fun j _ => congrFun (wz_c hL.sm) j, fun k k0 _ _ _ _ => hn_n (Or.inr k0)⟩
    exact w_iret (fun q => by cases q) (by have q := h _ hK; unfold lr_shoresOf at q; rw [if_pos (by omega)] at q; exact q)
theorem r_thirstyB {G : mj_G} {M M2 M3 : mj_M} {s m bf : Nat} {H : Nat → Int} {Q : mj_P} {d : Nat} (hL : yq_L G M s m H) (h0 : 0 ≤ H 0 ∧ H 0 ≤ 8) (hM2 : rq_M s m bf M M2) (hY : rq_Y s m (ye_y0 H) M3 M2) : ∀ (n : Nat) (i : Int) (cb sb : Nat), i + n = H 0 → 0 ≤ i → wz (d + 2) mt_X12_thirsty.2.2.2.2.1 Q (mt_X12_thirsty.2.2.2.2.1.drop 44) [some (.inr (.inr (some m))), some (.inl (ye_ob (fun t => if (ye_y0 H).2.2.2.2 t 6 < H (8 + 9 * t) then 1 else 0) (H 0).toNat)), some (.inl (H 0))] [] G M2 cb sb → wz (d + 2) mt_X12_thirsty.2.2.2.2.1 Q (mt_X12_thirsty.2.2.2.2.1.drop 19) [some (.inr (.inr (some m))), some (.inl (ye_ob (fun t => if (ye_y0 H).2.2.2.2 t 6 < H (8 + 9 * t) then 1 else 0) i.toNat)), some (.inl i)] [] G M2 cb sb := by
  have m62 : M2.2.2 m 6 = some s := by rw [hM2.1]; exact hL.m6
  intro n
  induction n with
  | zero =>
    intro i cb sb e i0 h
    obtain rfl : i = H 0 := by omega
    refine w_iln rfl ?_
    refine w_aln rfl ?_
    refine w_gr hL.gm rfl (by decide) rfl (m62) ?_
    refine w_ic ?_
    refine w_iald (v := (H 0)) hL.gs rfl (by show (0 : Int) ≤ 0; omega) (by show 0 < ((537 : Nat) : Int); omega) ((congrArg (M2.1 s) (show (0 : Int).toNat = 0 by omega)).trans ((hM2.2.2.1 (0) (Or.inl (by omega))).trans (hL.vn (by omega)))) ?_
    refine w_cmge (fun c1 => ?_) (fun c1 => ?_)
    · skip
      exact h
    · exfalso; omega
  | succ n ih =>
    intro i cb sb e i0 h
    have et : (i + 1).toNat = i.toNat + 1 := by omega
    have ei : ((i.toNat : Nat) : Int) = i := by omega
    refine w_iln rfl ?_
    refine w_aln rfl ?_
    refine w_gr hL.gm rfl (by decide) rfl (m62) ?_
    refine w_ic ?_
    refine w_iald (v := (H 0)) hL.gs rfl (by show (0 : Int) ≤ 0; omega) (by show 0 < ((537 : Nat) : Int); omega) ((congrArg (M2.1 s) (show (0 : Int).toNat = 0 by omega)).trans ((hM2.2.2.1 (0) (Or.inl (by omega))).trans (hL.vn (by omega)))) ?_
    refine w_cmge (fun c1 => ?_) (fun c1 => ?_)
    · exfalso; omega
    · skip
      refine w_iln rfl ?_
      refine w_aln rfl ?_
      refine w_iln rfl ?_
      refine w_bp ?_
      refine w_cv (st := [.inl (ye_ob (fun t => if (ye_y0 H).2.2.2.2 t 6 < H (8 + 9 * t) then 1 else 0) i.toNat)]) rfl hL.gm rfl (Nat.le_of_ble_eq_true rfl) (fun kk h => h) ⟨Nat.le_of_ble_eq_true rfl, ?_⟩
      show wz (d + 1) mt_X12_of.2.2.2.2.1 _ mt_X12_of.2.2.2.2.1 [some (.inr (.inr (some m))), some (.inl i), some (.inl 6)] [] _ _ _ _
      refine w_aln rfl ?_
      refine w_gr hL.gm rfl (by decide) rfl (m62) ?_
      refine w_sp ?_
      refine w_bp ?_
      refine w_iln rfl ?_
      refine w_mul ⟨by show (-2147483648 : Int) ≤ 11 * i; omega, by show 11 * i < (2147483648 : Int); omega⟩ ?_
      refine w_add ⟨by show (-2147483648 : Int) ≤ 232 + (11 * i); omega, by show 232 + (11 * i) < (2147483648 : Int); omega⟩ ?_
      refine w_iln rfl ?_
      refine w_add ⟨by show (-2147483648 : Int) ≤ (232 + (11 * i)) + 6; omega, by show (232 + (11 * i)) + 6 < (2147483648 : Int); omega⟩ ?_
      refine w_iald (v := ((ye_y0 H).2.2.2.2 i.toNat 6)) hL.gs rfl (by show (0 : Int) ≤ (232 + (11 * i)) + 6; omega) (by show (232 + (11 * i)) + 6 < ((537 : Nat) : Int); omega) (hY.R (w := 6) (by show ((232 + (11 * i)) + 6).toNat = 232 + 11 * i.toNat + 6; omega) (by show i.toNat < 8; omega) (by decide)) ?_
      refine w_iret (fun q => by cases q) ?_
      refine w_aln rfl ?_
      refine w_iln rfl ?_
      refine w_ic ?_
      refine w_cv (st := [.inl ((ye_y0 H).2.2.2.2 i.toNat 6), .inl (ye_ob (fun t => if (ye_y0 H).2.2.2.2 t 6 < H (8 + 9 * t) then 1 else 0) i.toNat)]) rfl hL.gm rfl (Nat.le_of_ble_eq_true rfl) (fun kk h => h) ⟨Nat.le_of_ble_eq_true rfl, ?_⟩
      show wz (d + 1) mt_X12_toldOf.2.2.2.2.1 _ mt_X12_toldOf.2.2.2.2.1 [some (.inr (.inr (some m))), some (.inl i), some (.inl 4)] [] _ _ _ _
      refine w_aln rfl ?_
      refine w_gr hL.gm rfl (by decide) rfl (m62) ?_
      refine w_ic ?_
      refine w_bp ?_
      refine w_iln rfl ?_
      refine w_mul ⟨by show (-2147483648 : Int) ≤ 9 * i; omega, by show 9 * i < (2147483648 : Int); omega⟩ ?_
      refine w_add ⟨by show (-2147483648 : Int) ≤ 4 + (9 * i); omega, by show 4 + (9 * i) < (2147483648 : Int); omega⟩ ?_
      refine w_iln rfl ?_
      refine w_add ⟨by show (-2147483648 : Int) ≤ (4 + (9 * i)) + 4; omega, by show (4 + (9 * i)) + 4 < (2147483648 : Int); omega⟩ ?_
      refine w_iald (v := (H (8 + 9 * i.toNat))) hL.gs rfl (by show (0 : Int) ≤ (4 + (9 * i)) + 4; omega) (by show (4 + (9 * i)) + 4 < ((537 : Nat) : Int); omega) ((congrArg (M2.1 s) (show ((4 + (9 * i)) + 4).toNat = 8 + 9 * i.toNat by omega)).trans ((hM2.2.2.1 (8 + 9 * i.toNat) (Or.inl (by omega))).trans (hL.vn (by omega)))) ?_
      refine w_iret (fun q => by cases q) ?_
      refine w_cmge (fun c2 => ?_) (fun c2 => ?_)
      · skip
        refine w_ic ?_
        refine w_or ?_
        intro z3 hz3 ez3
        refine w_isn ?_
        show wz _ _ _ _ [some (.inr (.inr (some m))), some (.inl z3), some (.inl i)] _ _ _ _ _
        refine w_ii rfl ⟨by show (-2147483648 : Int) ≤ i + 1; omega, by show i + 1 < (2147483648 : Int); omega⟩ ?_
        show wz _ _ _ _ [some (.inr (.inr (some m))), some (.inl z3), some (.inl (i + 1))] _ _ _ _ _
        refine w_goto ?_
        have ez : z3 = ye_ob (fun t => if (ye_y0 H).2.2.2.2 t 6 < H (8 + 9 * t) then 1 else 0) (i + 1).toNat := by
          rw [et]; show _ = (Int32.ofInt (ye_ob (fun t => if (ye_y0 H).2.2.2.2 t 6 < H (8 + 9 * t) then 1 else 0) i.toNat) ||| Int32.ofInt (Int32.ofInt ((fun t => if (ye_y0 H).2.2.2.2 t 6 < H (8 + 9 * t) then 1 else 0) i.toNat) <<< (Int32.ofInt ((i.toNat : Nat) : Int) &&& 31)).toInt).toInt
          rw [ei]
          show _ = (Int32.ofInt (ye_ob (fun t => if (ye_y0 H).2.2.2.2 t 6 < H (8 + 9 * t) then 1 else 0) i.toNat) ||| Int32.ofInt (Int32.ofInt (if (ye_y0 H).2.2.2.2 i.toNat 6 < H (8 + 9 * i.toNat) then 1 else 0) <<< (Int32.ofInt i &&& 31)).toInt).toInt
          rw [if_neg (by omega), ez3, show (Int32.ofInt (Int32.ofInt 0 <<< (Int32.ofInt i &&& 31)).toInt) = Int32.ofInt 0 from ye_sh0]
        rw [ez]
        exact ih (i + 1) _ _ (by omega) (by omega) h
      · skip
        refine w_ic ?_
        refine w_iln rfl ?_
        refine w_shl ?_
        intro z4 hz4 ez4
        refine w_goto ?_
        refine w_or ?_
        intro z5 hz5 ez5
        obtain rfl : z5 = rv_bs (ye_ob (fun t => if (ye_y0 H).2.2.2.2 t 6 < H (8 + 9 * t) then 1 else 0) i.toNat) i := by rw [ez5, ez4]; rfl
        refine w_isn ?_
        show wz _ _ _ _ [some (.inr (.inr (some m))), some (.inl (rv_bs (ye_ob (fun t => if (ye_y0 H).2.2.2.2 t 6 < H (8 + 9 * t) then 1 else 0) i.toNat) i)), some (.inl i)] _ _ _ _ _
        refine w_ii rfl ⟨by show (-2147483648 : Int) ≤ i + 1; omega, by show i + 1 < (2147483648 : Int); omega⟩ ?_
        show wz _ _ _ _ [some (.inr (.inr (some m))), some (.inl (rv_bs (ye_ob (fun t => if (ye_y0 H).2.2.2.2 t 6 < H (8 + 9 * t) then 1 else 0) i.toNat) i)), some (.inl (i + 1))] _ _ _ _ _
        refine w_goto ?_
        have ez : (rv_bs (ye_ob (fun t => if (ye_y0 H).2.2.2.2 t 6 < H (8 + 9 * t) then 1 else 0) i.toNat) i) = ye_ob (fun t => if (ye_y0 H).2.2.2.2 t 6 < H (8 + 9 * t) then 1 else 0) (i + 1).toNat := by
          rw [et]; show _ = (Int32.ofInt (ye_ob (fun t => if (ye_y0 H).2.2.2.2 t 6 < H (8 + 9 * t) then 1 else 0) i.toNat) ||| Int32.ofInt (Int32.ofInt ((fun t => if (ye_y0 H).2.2.2.2 t 6 < H (8 + 9 * t) then 1 else 0) i.toNat) <<< (Int32.ofInt ((i.toNat : Nat) : Int) &&& 31)).toInt).toInt
          rw [ei]
          show _ = (Int32.ofInt (ye_ob (fun t => if (ye_y0 H).2.2.2.2 t 6 < H (8 + 9 * t) then 1 else 0) i.toNat) ||| Int32.ofInt (Int32.ofInt (if (ye_y0 H).2.2.2.2 i.toNat 6 < H (8 + 9 * i.toNat) then 1 else 0) <<< (Int32.ofInt i &&& 31)).toInt).toInt
          rw [if_pos (by omega)]; rfl
        rw [ez]
        exact ih (i + 1) _ _ (by omega) (by omega) h
theorem r_X12_thirstyC {G : mj_G} {M : mj_M} {s m bf : Nat} {H : Nat → Int} {Q : mj_P} {d : Nat} (hL : yq_L G M s m H) (gb : G bf = (64100, 135)) (m45 : M.2.2 m 45 = some bf) (hH : ye_H2 H) (h : ∀ M1, rq_K s m bf M M1 → Q (some (.inl (lr_thirsty H))) G M1) : mj_R mj_tab (d + 6) 248 [.inr (.inr (some m))] G M Q := by
  have nbs : bf ≠ s := hn_ne gb hL.gs (by decide)
  have nbm : bf ≠ m := hn_ne gb hL.gm (by decide)
  have nms : m ≠ s := hL.sm.symm
  have h0 := hH.1.1
  refine ⟨Nat.le_of_ble_eq_true rfl, ?_⟩
  show wz (d + 5) mt_X12_thirsty.2.2.2.2.1 _ mt_X12_thirsty.2.2.2.2.1 [some (.inr (.inr (some m))), none, none] [] G M _ _
  refine w_aln rfl ?_
  refine w_ic ?_
  refine w_pi hL.gm rfl (by decide) rfl (fun q => by cases q) ?_
  refine w_aln rfl ?_
  refine w_gr hL.gm rfl (by decide) rfl (hL.m6) ?_
  refine w_ic ?_
  refine w_iald (v := (H 0)) hL.gs rfl (by show (0 : Int) ≤ 0; omega) (by show 0 < ((537 : Nat) : Int); omega) ((congrFun (wz_c hL.sm) _).trans ((congrArg (M.1 s) (show (0 : Int).toNat = 0 by omega)).trans (hL.vn (by omega)))) ?_
  refine w_ifne (fun c1 => ?_) (fun c1 => ?_)
  · skip
    refine w_aln rfl ?_
    refine w_cv (st := []) rfl hL.gm rfl (Nat.le_of_ble_eq_true rfl) (fun kk h => h) (r_X12_thinksC (M0 := mj_p0 M m 0 0) (d := d + 3) hL.gm hL.gs gb hL.m6 m45 (fun M1 t1 t2 t3 => ?_))
    have hM : rq_M s m bf M M1 := ⟨t1, fun a a1 a2 a3 => (t2 a a3).trans (wz_c a2), fun j _ => (congrFun (t2 s nbs.symm) j).trans (congrFun (wz_c hL.sm) j), fun k k0 _ _ _ _ => (congrFun (t2 m nbm.symm) k).trans (hn_n (Or.inr k0)), fun k hk => (t3 k hk).trans (congrFun (wz_c hL.sm) _)⟩
    have m6 : M1.2.2 m 6 = some s := by rw [t1]; exact hL.m6
    refine w_aln rfl ?_
    refine w_ic ?_
    refine w_cv (st := []) rfl hL.gm rfl (Nat.le_of_ble_eq_true rfl) (fun kk h => h) (r_X12_wholeYear0 (d := d) (hM.L hL) hH (fun M2 hY => ?_))
    have hM2 := hM.yr hY nbs nbm
    have m62 : M2.2.2 m 6 = some s := by rw [hM2.1]; exact hL.m6
    refine w_ic ?_
    refine w_isn ?_
    show wz _ _ _ _ [some (.inr (.inr (some m))), some (.inl 0), none] _ _ _ _ _
    refine w_ic ?_
    refine w_isn ?_
    show wz _ _ _ _ [some (.inr (.inr (some m))), some (.inl 0), some (.inl 0)] _ _ _ _ _
    refine r_thirstyB (d := d + 3) hL h0 hM2 hY (H 0).toNat 0 _ _ (by omega) (by decide) ?_
    refine w_aln rfl ?_
    refine w_cv (st := []) rfl hL.gm rfl (Nat.le_of_ble_eq_true rfl) (fun kk h => h) (r_X12_forgetsC (M0 := M2) (d := d + 3) hL.gm hL.gs gb (by rw [hM2.1]; exact hL.m6) (by rw [hM2.1]; exact m45) (fun M9 f1 f2 f3 => ?_))
    have hK := hM2.end nbs nms f1 f2 f3
    refine w_iln rfl ?_
    exact w_iret (fun q => by cases q) (by have q := h _ hK; unfold lr_thirsty at q; rw [if_neg (by omega)] at q; exact q)
  · skip
    refine w_ic ?_
    have hK : rq_K s m bf M (mj_p0 M m 0 0) := ⟨rfl, fun a _ a2 _ => wz_c a2, fun j _ => congrFun (wz_c hL.sm) j, fun k k0 _ _ _ _ => hn_n (Or.inr k0)⟩
    exact w_iret (fun q => by cases q) (by have q := h _ hK; unfold lr_thirsty at q; rw [if_pos (by omega)] at q; exact q)
theorem r_X12_drawnC {G : mj_G} {M : mj_M} {s m bf : Nat} {H : Nat → Int} {Q : mj_P} {d : Nat} (hL : yq_L G M s m H) (gb : G bf = (64100, 135)) (m45 : M.2.2 m 45 = some bf) (hH : ye_H2 H) {z : Int} (h : ∀ M1, rq_K s m bf M M1 → Q (some (.inl (lr_drawn H z))) G M1) : mj_R mj_tab (d + 6) 182 [.inr (.inr (some m)), .inl z] G M Q := by
  have nbs : bf ≠ s := hn_ne gb hL.gs (by decide)
  have nbm : bf ≠ m := hn_ne gb hL.gm (by decide)
  have nms : m ≠ s := hL.sm.symm
  have h0 := hH.1.1
  refine ⟨Nat.le_of_ble_eq_true rfl, ?_⟩
  show wz (d + 5) mt_X12_drawn.2.2.2.2.1 _ mt_X12_drawn.2.2.2.2.1 [some (.inr (.inr (some m))), some (.inl z), none] [] G M _ _
  refine w_aln rfl ?_
  refine w_ic ?_
  refine w_pi hL.gm rfl (by decide) rfl (fun q => by cases q) ?_
  refine w_aln rfl ?_
  refine w_gr hL.gm rfl (by decide) rfl (hL.m6) ?_
  refine w_ic ?_
  refine w_iald (v := (H 0)) hL.gs rfl (by show (0 : Int) ≤ 0; omega) (by show 0 < ((537 : Nat) : Int); omega) ((congrFun (wz_c hL.sm) _).trans ((congrArg (M.1 s) (show (0 : Int).toNat = 0 by omega)).trans (hL.vn (by omega)))) ?_
  refine w_ifne (fun c1 => ?_) (fun c1 => ?_)
  · skip
    refine w_aln rfl ?_
    refine w_cv (st := []) rfl hL.gm rfl (Nat.le_of_ble_eq_true rfl) (fun kk h => h) (r_X12_thinksC (M0 := mj_p0 M m 0 0) (d := d + 3) hL.gm hL.gs gb hL.m6 m45 (fun M1 t1 t2 t3 => ?_))
    have hM : rq_M s m bf M M1 := ⟨t1, fun a a1 a2 a3 => (t2 a a3).trans (wz_c a2), fun j _ => (congrFun (t2 s nbs.symm) j).trans (congrFun (wz_c hL.sm) j), fun k k0 _ _ _ _ => (congrFun (t2 m nbm.symm) k).trans (hn_n (Or.inr k0)), fun k hk => (t3 k hk).trans (congrFun (wz_c hL.sm) _)⟩
    have m6 : M1.2.2 m 6 = some s := by rw [t1]; exact hL.m6
    refine w_aln rfl ?_
    refine w_iln rfl ?_
    refine w_pi hL.gm rfl (by decide) rfl (fun q => by cases q) ?_
    have hM3 : rq_M s m bf M (mj_p0 M1 m 47 z) := ⟨hM.1, fun a a1 a2 a3 => (wz_c a2).trans (hM.2.1 a a1 a2 a3), fun j hj => (congrFun (wz_c hL.sm) j).trans (hM.2.2.1 j hj), fun k k0 k1 k2 k3 k4 => (hn_n (Or.inr k4)).trans (hM.2.2.2.1 k k0 k1 k2 k3 k4), fun k hk => (congrFun (wz_c nbm) k).trans (hM.2.2.2.2 k hk)⟩
    refine w_aln rfl ?_
    refine w_ic ?_
    refine w_cv (st := []) rfl hL.gm rfl (Nat.le_of_ble_eq_true rfl) (fun kk h => h) (r_X12_wholeYear1 (d := d) (hM3.L hL) hH hn_s (fun M2 hY => ?_))
    have hM2 := hM3.yr hY nbs nbm
    have m62 : M2.2.2 m 6 = some s := by rw [hM2.1]; exact hL.m6
    refine w_aln rfl ?_
    refine w_gr hL.gm rfl (by decide) rfl (m62) ?_
    refine w_sp ?_
    refine w_iald (v := ((ye_yd H z).1 224)) hL.gs rfl (by show (0 : Int) ≤ 224; omega) (by show 224 < ((537 : Nat) : Int); omega) (hY.g (by decide) (by decide)) ?_
    refine w_isn ?_
    show wz _ _ _ _ [some (.inr (.inr (some m))), some (.inl z), some (.inl ((ye_yd H z).1 224))] _ _ _ _ _
    refine w_aln rfl ?_
    refine w_cv (st := []) rfl hL.gm rfl (Nat.le_of_ble_eq_true rfl) (fun kk h => h) (r_X12_forgetsC (M0 := M2) (d := d + 3) hL.gm hL.gs gb (by rw [hM2.1]; exact hL.m6) (by rw [hM2.1]; exact m45) (fun M9 f1 f2 f3 => ?_))
    have hK := hM2.end nbs nms f1 f2 f3
    refine w_iln rfl ?_
    exact w_iret (fun q => by cases q) (by have q := h _ hK; unfold lr_drawn at q; rw [if_neg (by omega)] at q; exact q)
  · skip
    refine w_sp ?_
    have hK : rq_K s m bf M (mj_p0 M m 0 0) := ⟨rfl, fun a _ a2 _ => wz_c a2, fun j _ => congrFun (wz_c hL.sm) j, fun k k0 _ _ _ _ => hn_n (Or.inr k0)⟩
    exact w_iret (fun q => by cases q) (by have q := h _ hK; unfold lr_drawn at q; rw [if_pos (by omega)] at q; exact q)
end
section
/-! ===== YEARS now and of the images: their cells; a YEAR copied (laid by a program) ===== -/
def yw_Y : List Nat := [61, 278, 323]
def lq_yi (k : Nat) : Nat := if k = 0 then 278 else 323
theorem lq_yi_in (k : Nat) : lq_yi k ∈ yw_Y ∧ lq_yi k ≠ 61 := by unfold lq_yi; split <;> exact ⟨by decide, by decide⟩
theorem yw_Y3 {Y : Nat} (h : Y ∈ yw_Y) : Y = 61 ∨ Y = 278 ∨ Y = 323 := by
  rcases List.mem_cons.mp h with h | h
  · exact Or.inl h
  · rcases List.mem_cons.mp h with h | h
    · exact Or.inr (Or.inl h)
    · rcases List.mem_cons.mp h with h | h
      · exact Or.inr (Or.inr h)
      · cases h
def lq_WA (G : mj_G) (w : Nat → Nat) : Prop := ∀ Y, Y ∈ yw_Y → G (w Y) = (1010, 0) ∧ G (w (Y + 1)) = (42100, 12) ∧ G (w (Y + 2)) = (43100, 12) ∧ G (w (Y + 3)) = (44100, 12) ∧ G (w (Y + 4)) = (45104, 8) ∧ ∀ t, t < 8 → G (w (Y + 5 + t)) = (46100, 11)
def lq_WB (M : mj_M) (w : Nat → Nat) : Prop := (∀ Y, Y ∈ yw_Y → M.2.2 (w Y) 3 = some (w (Y + 1)) ∧ M.2.2 (w Y) 4 = some (w (Y + 2)) ∧ M.2.2 (w Y) 5 = some (w (Y + 3)) ∧ M.2.2 (w Y) 6 = some (w (Y + 4)) ∧ ∀ t, t < 8 → M.2.2 (w (Y + 4)) t = some (w (Y + 5 + t))) ∧ M.2.2 (w 29) 3 = some (w 61) ∧ (∀ k, k < 2 → M.2.2 (w (lq_sk k)) 3 = some (w (lq_yi k)))
def ye_u1 : Nat → Nat := fun i => if i = 0 then 1010 else if i = 1 then 42100 else if i = 2 then 43100 else if i = 3 then 44100 else if i = 4 then 45104 else 46100
theorem ye_u1_U : ye_U ye_u1 := by
  refine ⟨by decide, rfl, rfl, rfl, rfl, rfl, rfl, ?_, by decide⟩
  have h : ∀ i, i < 6 → ∀ j, j < 6 → ye_u1 i = ye_u1 j → i = j := by decide
  exact fun i j hi hj => h i hi j hj
def ye_tg (t : Nat) : Prop := t = 1010 ∨ t = 42100 ∨ t = 43100 ∨ t = 44100 ∨ t = 45104 ∨ t = 46100 ∨ t = 48102
/-- the YEAR's cells at Y: 13 of them -/
abbrev yw_ne (w : Nat → Nat) (Y a : Nat) : Prop := ∀ v, v < 13 → a ≠ w (Y + v)
/-- the cells of the YEAR at Y hold F (ints), A, B, C, R -/
def yk_S (w : Nat → Nat) (Y : Nat) (M0 : mj_M) (F A B C : Nat → Int) (R : Nat → Nat → Int) (M : mj_M) : Prop := M.2 = M0.2 ∧ (∀ a, yw_ne w Y a → M.1 a = M0.1 a) ∧ (∀ f, f < 15 → M.1 (w Y) f = F f) ∧ (∀ j, j < 12 → M.1 (w (Y + 1)) j = A j) ∧ (∀ j, j < 12 → M.1 (w (Y + 2)) j = B j) ∧ (∀ j, j < 12 → M.1 (w (Y + 3)) j = C j) ∧ (∀ t u, t < 8 → u < 11 → M.1 (w (Y + 5 + t)) u = R t u)
section YK2
variable {G : mj_G} {M M0 : mj_M} {w : Nat → Nat} {Y X x : Nat} {F A B C A' : Nat → Int} {R : Nat → Nat → Int} {a b k t f j : Nat} {v : Int}
theorem yw_w (hA : lq_A G w) (hY : Y ∈ yw_Y) (hX : X ∈ yw_Y) {i j : Nat} (hi : i < 13) (hj : j < 13) (h : Y ≠ X ∨ i ≠ j) : w (Y + i) ≠ w (X + j) := fun e => by
  rcases yw_Y3 hY with rfl | rfl | rfl <;> rcases yw_Y3 hX with rfl | rfl | rfl <;> (have q := hA.1 _ _ (by omega) (by omega) e; omega)
theorem yk_S.rf (h : yk_S w Y M0 F A B C R M) (e : M0.2.2 a k = some b) : M.2.2 a k = some b := by rw [h.1]; exact e
theorem yk_S.o (h : yk_S w Y M0 F A B C R M) (hA : lq_A G w) (hY : Y ∈ yw_Y) (hX : X ∈ yw_Y) (n : X ≠ Y) {i : Nat} (hi : i < 13) : M.1 (w (X + i)) = M0.1 (w (X + i)) := h.2.1 _ (fun v hv => yw_w hA hX hY hi hv (Or.inl n))
theorem yk_S.pf (h : yk_S w Y M0 F A B C R M) (hA : lq_A G w) (hY : Y ∈ yw_Y) : yk_S w Y M0 (rv_up F f v) A B C R (mj_p0 M (w Y) f v) := by
  have n : ∀ i, 0 < i → i < 13 → w (Y + i) ≠ w Y := fun i h0 hi => yw_w (j := 0) hA hY hY hi (by decide) (Or.inr (by omega))
  exact ⟨h.1, fun a ha => (wz_c (ha 0 (by decide))).trans (h.2.1 a ha), cp_up h.2.2.1, fun j hj => (congrFun (wz_c (n 1 (by decide) (by decide))) j).trans (h.2.2.2.1 j hj), fun j hj => (congrFun (wz_c (n 2 (by decide) (by decide))) j).trans (h.2.2.2.2.1 j hj), fun j hj => (congrFun (wz_c (n 3 (by decide) (by decide))) j).trans (h.2.2.2.2.2.1 j hj), fun t u ht hu => (congrFun (wz_c (by rw [Nat.add_assoc]; exact n (5 + t) (by omega) (by omega))) u).trans (h.2.2.2.2.2.2 t u ht hu)⟩
theorem yk_S.cA (h : yk_S w Y M0 F A B C R M) (hA : lq_A G w) (hY : Y ∈ yw_Y) (hs : ∀ j, j < 12 → M.1 a j = A' j) : yk_S w Y M0 F A' B C R (mj_cp0 M a (w (Y + 1)) 0 0 12) := by
  have n : ∀ i, i ≠ 1 → i < 13 → w (Y + i) ≠ w (Y + 1) := fun i h0 hi => yw_w hA hY hY hi (by decide) (Or.inr h0)
  exact ⟨h.1, fun a ha => (cp0_o (ha 1 (by decide))).trans (h.2.1 a ha), fun f hf => (congrFun (cp0_o (n 0 (by decide) (by decide))) f).trans (h.2.2.1 f hf), fun j hj => (cp0_i hj).trans (hs j hj), fun j hj => (congrFun (cp0_o (n 2 (by decide) (by decide))) j).trans (h.2.2.2.2.1 j hj), fun j hj => (congrFun (cp0_o (n 3 (by decide) (by decide))) j).trans (h.2.2.2.2.2.1 j hj), fun t u ht hu => (congrFun (cp0_o (by rw [Nat.add_assoc]; exact n (5 + t) (by omega) (by omega))) u).trans (h.2.2.2.2.2.2 t u ht hu)⟩
theorem yk_S.cB (h : yk_S w Y M0 F A B C R M) (hA : lq_A G w) (hY : Y ∈ yw_Y) (hs : ∀ j, j < 12 → M.1 a j = A' j) : yk_S w Y M0 F A A' C R (mj_cp0 M a (w (Y + 2)) 0 0 12) := by
  have n : ∀ i, i ≠ 2 → i < 13 → w (Y + i) ≠ w (Y + 2) := fun i h0 hi => yw_w hA hY hY hi (by decide) (Or.inr h0)
  exact ⟨h.1, fun a ha => (cp0_o (ha 2 (by decide))).trans (h.2.1 a ha), fun f hf => (congrFun (cp0_o (n 0 (by decide) (by decide))) f).trans (h.2.2.1 f hf), fun j hj => (congrFun (cp0_o (n 1 (by decide) (by decide))) j).trans (h.2.2.2.1 j hj), fun j hj => (cp0_i hj).trans (hs j hj), fun j hj => (congrFun (cp0_o (n 3 (by decide) (by decide))) j).trans (h.2.2.2.2.2.1 j hj), fun t u ht hu => (congrFun (cp0_o (by rw [Nat.add_assoc]; exact n (5 + t) (by omega) (by omega))) u).trans (h.2.2.2.2.2.2 t u ht hu)⟩
theorem yk_S.cC (h : yk_S w Y M0 F A B C R M) (hA : lq_A G w) (hY : Y ∈ yw_Y) (hs : ∀ j, j < 12 → M.1 a j = A' j) : yk_S w Y M0 F A B A' R (mj_cp0 M a (w (Y + 3)) 0 0 12) := by
  have n : ∀ i, i ≠ 3 → i < 13 → w (Y + i) ≠ w (Y + 3) := fun i h0 hi => yw_w hA hY hY hi (by decide) (Or.inr h0)
  exact ⟨h.1, fun a ha => (cp0_o (ha 3 (by decide))).trans (h.2.1 a ha), fun f hf => (congrFun (cp0_o (n 0 (by decide) (by decide))) f).trans (h.2.2.1 f hf), fun j hj => (congrFun (cp0_o (n 1 (by decide) (by decide))) j).trans (h.2.2.2.1 j hj), fun j hj => (congrFun (cp0_o (n 2 (by decide) (by decide))) j).trans (h.2.2.2.2.1 j hj), fun j hj => (cp0_i hj).trans (hs j hj), fun t u ht hu => (congrFun (cp0_o (by rw [Nat.add_assoc]; exact n (5 + t) (by omega) (by omega))) u).trans (h.2.2.2.2.2.2 t u ht hu)⟩
theorem yk_S.cR (h : yk_S w Y M0 F A B C R M) (hA : lq_A G w) (hY : Y ∈ yw_Y) (ht : t < 8) {r : Nat → Int} (hs : ∀ j, j < 11 → M.1 a j = r j) : yk_S w Y M0 F A B C (ye_ru R t r) (mj_cp0 M a (w (Y + 5 + t)) 0 0 11) := by
  have n : ∀ i, i ≠ 5 + t → i < 13 → w (Y + i) ≠ w (Y + 5 + t) := fun i h0 hi => by rw [Nat.add_assoc]; exact yw_w hA hY hY hi (by omega) (Or.inr h0)
  refine ⟨h.1, fun a ha => (cp0_o (by rw [Nat.add_assoc]; exact ha (5 + t) (by omega))).trans (h.2.1 a ha), fun f hf => (congrFun (cp0_o (n 0 (by omega) (by decide))) f).trans (h.2.2.1 f hf), fun j hj => (congrFun (cp0_o (n 1 (by omega) (by decide))) j).trans (h.2.2.2.1 j hj), fun j hj => (congrFun (cp0_o (n 2 (by omega) (by decide))) j).trans (h.2.2.2.2.1 j hj), fun j hj => (congrFun (cp0_o (n 3 (by omega) (by decide))) j).trans (h.2.2.2.2.2.1 j hj), fun s u hs2 hu => ?_⟩
  by_cases c : s = t
  · subst c
    rw [ye_ru_s]; exact (cp0_i hu).trans (hs u hu)
  · rw [ye_ru_n c]
    exact (congrFun (cp0_o (by have q := n (5 + s) (by omega) (by omega); rw [← Nat.add_assoc] at q; exact q)) u).trans (h.2.2.2.2.2.2 s u hs2 hu)
theorem yk_S.re : yk_S w Y M (M.1 (w Y)) (M.1 (w (Y + 1))) (M.1 (w (Y + 2))) (M.1 (w (Y + 3))) (fun t => M.1 (w (Y + 5 + t))) M := ⟨rfl, fun _ _ => rfl, fun _ _ => rfl, fun _ _ => rfl, fun _ _ => rfl, fun _ _ => rfl, fun _ _ _ _ => rfl⟩
/-- the YEAR at Y is as that at X was -/
def yk_cp (w : Nat → Nat) (Y X : Nat) (M M' : mj_M) : Prop := M'.2 = M.2 ∧ (∀ a, yw_ne w Y a → M'.1 a = M.1 a) ∧ (∀ f, f < 15 → f < 3 ∨ 7 ≤ f → M'.1 (w Y) f = M.1 (w X) f) ∧ (∀ v, v < 3 → ∀ j, j < 12 → M'.1 (w (Y + (1 + v))) j = M.1 (w (X + (1 + v))) j) ∧ (∀ t u, t < 8 → u < 11 → M'.1 (w (Y + 5 + t)) u = M.1 (w (X + 5 + t)) u)
end YK2
theorem r_cpY {G : mj_G} {M : mj_M} {w : Nat → Nat} {Y X : Nat} {Q : mj_P} {d : Nat} (hA : lq_A G w) (gA : lq_WA G w) (rB : ∀ Z, Z ∈ yw_Y → M.2.2 (w Z) 3 = some (w (Z + 1)) ∧ M.2.2 (w Z) 4 = some (w (Z + 2)) ∧ M.2.2 (w Z) 5 = some (w (Z + 3)) ∧ M.2.2 (w Z) 6 = some (w (Z + 4)) ∧ ∀ t, t < 8 → M.2.2 (w (Z + 4)) t = some (w (Z + 5 + t))) (hY : Y ∈ yw_Y) (hX : X ∈ yw_Y) (nXY : X ≠ Y) {F A B C : Nat → Int} : ∀ (n : Nat) (i : Int) (R : Nat → Nat → Int) (M1 : mj_M) (cb sb : Nat), i + n = 8 → 0 ≤ i → yk_S w Y M F A B C R M1 → (∀ t : Nat, t < 8 → (t : Int) < i → R t = M.1 (w (X + 5 + t))) → (∀ R M1, yk_S w Y M F A B C R M1 → (∀ t, t < 8 → R t = M.1 (w (X + 5 + t))) → wz d mt_X10_copy.2.2.2.2.1 Q (mt_X10_copy.2.2.2.2.1.drop 55) [some (.inr (.inr (some (w Y)))), some (.inr (.inr (some (w X)))), some (.inl 8)] [] G M1 cb sb) → wz d mt_X10_copy.2.2.2.2.1 Q (mt_X10_copy.2.2.2.2.1.drop 38) [some (.inr (.inr (some (w Y)))), some (.inr (.inr (some (w X)))), some (.inl i)] [] G M1 cb sb := by
  intro n
  induction n with
  | zero =>
    intro i R M1 cb sb e i0 hC hz h
    obtain rfl : i = 8 := by omega
    refine w_iln rfl ?_
    refine w_bp ?_
    refine w_cmge (fun c1 => ?_) (fun c1 => ?_)
    · skip
      exact h _ _ hC (fun t ht => hz t ht (by omega))
    · exfalso; omega
  | succ n ih =>
    intro i R M1 cb sb e i0 hC hz h
    refine w_iln rfl ?_
    refine w_bp ?_
    refine w_cmge (fun c1 => ?_) (fun c1 => ?_)
    · exfalso; omega
    · skip
      refine w_aln rfl ?_
      refine w_gr ((gA X hX).1) rfl (by decide) rfl (hC.rf (rB X hX).2.2.2.1) ?_
      refine w_iln rfl ?_
      refine w_aald ((gA X hX).2.2.2.2.1) rfl (by show (0 : Int) ≤ i; omega) (by show i < ((8 : Nat) : Int); omega) (hC.rf ((rB X hX).2.2.2.2 _ (by show i.toNat < 8; omega))) ?_
      refine w_ic ?_
      refine w_aln rfl ?_
      refine w_gr ((gA Y hY).1) rfl (by decide) rfl (hC.rf (rB Y hY).2.2.2.1) ?_
      refine w_iln rfl ?_
      refine w_aald ((gA Y hY).2.2.2.2.1) rfl (by show (0 : Int) ≤ i; omega) (by show i < ((8 : Nat) : Int); omega) (hC.rf ((rB Y hY).2.2.2.2 _ (by show i.toNat < 8; omega))) ?_
      refine w_ic ?_
      refine w_bp ?_
      refine w_cp0 ((gA X hX).2.2.2.2.2 _ (by show i.toNat < 8; omega)) rfl ((gA Y hY).2.2.2.2.2 _ (by show i.toNat < 8; omega)) rfl (by decide) (by decide) (by decide) (by decide) (by decide) (by decide) (Nat.le_of_ble_eq_true rfl) ?_
      have hC2 := hC.cR (a := w (X + 5 + i.toNat)) (t := i.toNat) (r := M.1 (w (X + 5 + i.toNat))) hA hY (by omega) (fun j _ => congrFun (by rw [Nat.add_assoc]; exact hC.o (i := 5 + i.toNat) hA hY hX nXY (by omega)) j)
      refine w_ii rfl ⟨by show (-2147483648 : Int) ≤ i + 1; omega, by show i + 1 < (2147483648 : Int); omega⟩ ?_
      show wz _ _ _ _ [some (.inr (.inr (some (w Y)))), some (.inr (.inr (some (w X)))), some (.inl (i + 1))] _ _ _ _ _
      refine w_goto ?_
      refine ih (i + 1) _ _ _ _ (by omega) (by omega) hC2 (fun t ht hti => ?_) h
      by_cases c : t = i.toNat
      · rw [c, ye_ru_s]
      · rw [ye_ru_n c]; exact hz t ht (by omega)
theorem r_X10_copyC {G : mj_G} {M : mj_M} {w : Nat → Nat} {Y X : Nat} {Q : mj_P} {d : Nat} (hA : lq_A G w) (gA : lq_WA G w) (rB : ∀ Z, Z ∈ yw_Y → M.2.2 (w Z) 3 = some (w (Z + 1)) ∧ M.2.2 (w Z) 4 = some (w (Z + 2)) ∧ M.2.2 (w Z) 5 = some (w (Z + 3)) ∧ M.2.2 (w Z) 6 = some (w (Z + 4)) ∧ ∀ t, t < 8 → M.2.2 (w (Z + 4)) t = some (w (Z + 5 + t))) (hY : Y ∈ yw_Y) (hX : X ∈ yw_Y) (nXY : X ≠ Y) (hb : M.1 (w X) 0 = 0 ∨ M.1 (w X) 0 = 1) (h : ∀ M1, yk_cp w Y X M M1 → Q none G M1) : mj_R mj_tab (d + 1) 90 [.inr (.inr (some (w Y))), .inr (.inr (some (w X)))] G M Q := by
  refine ⟨Nat.le_of_ble_eq_true rfl, ?_⟩
  show wz d mt_X10_copy.2.2.2.2.1 _ mt_X10_copy.2.2.2.2.1 [some (.inr (.inr (some (w Y)))), some (.inr (.inr (some (w X)))), none] [] G M _ _
  have hC : yk_S w Y M (M.1 (w Y)) (M.1 (w (Y + 1))) (M.1 (w (Y + 2))) (M.1 (w (Y + 3))) (fun t => M.1 (w (Y + 5 + t))) M := yk_S.re
  refine w_aln rfl ?_
  refine w_aln rfl ?_
  refine w_gi ((gA X hX).1) rfl (by decide) rfl (congrFun (show _ = M.1 (w X) from hC.o (i := 0) hA hY hX nXY (by decide)) 0) ?_
  refine w_pi ((gA Y hY).1) rfl (by decide) rfl (fun _ => by omega) ?_
  have hC1 := hC.pf (f := 0) (v := (M.1 (w X) 0)) hA hY
  refine w_aln rfl ?_
  refine w_aln rfl ?_
  refine w_gi ((gA X hX).1) rfl (by decide) rfl (congrFun (show _ = M.1 (w X) from hC1.o (i := 0) hA hY hX nXY (by decide)) 1) ?_
  refine w_pi ((gA Y hY).1) rfl (by decide) rfl (fun q => by cases q) ?_
  have hC2 := hC1.pf (f := 1) (v := (M.1 (w X) 1)) hA hY
  refine w_aln rfl ?_
  refine w_aln rfl ?_
  refine w_gi ((gA X hX).1) rfl (by decide) rfl (congrFun (show _ = M.1 (w X) from hC2.o (i := 0) hA hY hX nXY (by decide)) 2) ?_
  refine w_pi ((gA Y hY).1) rfl (by decide) rfl (fun q => by cases q) ?_
  have hC3 := hC2.pf (f := 2) (v := (M.1 (w X) 2)) hA hY
  refine w_aln rfl ?_
  refine w_gr ((gA X hX).1) rfl (by decide) rfl (hC3.rf (rB X hX).1) ?_
  refine w_ic ?_
  refine w_aln rfl ?_
  refine w_gr ((gA Y hY).1) rfl (by decide) rfl (hC3.rf (rB Y hY).1) ?_
  refine w_ic ?_
  refine w_bp ?_
  refine w_cp0 ((gA X hX).2.1) rfl ((gA Y hY).2.1) rfl (by decide) (by decide) (by decide) (by decide) (by decide) (by decide) (Nat.le_of_ble_eq_true rfl) ?_
  have hC4 := hC3.cA (A' := M.1 (w (X + 1))) hA hY (fun j _ => congrFun (hC3.o (i := 1) hA hY hX nXY (by decide)) j)
  refine w_aln rfl ?_
  refine w_gr ((gA X hX).1) rfl (by decide) rfl (hC4.rf (rB X hX).2.1) ?_
  refine w_ic ?_
  refine w_aln rfl ?_
  refine w_gr ((gA Y hY).1) rfl (by decide) rfl (hC4.rf (rB Y hY).2.1) ?_
  refine w_ic ?_
  refine w_bp ?_
  refine w_cp0 ((gA X hX).2.2.1) rfl ((gA Y hY).2.2.1) rfl (by decide) (by decide) (by decide) (by decide) (by decide) (by decide) (Nat.le_of_ble_eq_true rfl) ?_
  have hC5 := hC4.cB (A' := M.1 (w (X + 2))) hA hY (fun j _ => congrFun (hC4.o (i := 2) hA hY hX nXY (by decide)) j)
  refine w_aln rfl ?_
  refine w_gr ((gA X hX).1) rfl (by decide) rfl (hC5.rf (rB X hX).2.2.1) ?_
  refine w_ic ?_
  refine w_aln rfl ?_
  refine w_gr ((gA Y hY).1) rfl (by decide) rfl (hC5.rf (rB Y hY).2.2.1) ?_
  refine w_ic ?_
  refine w_bp ?_
  refine w_cp0 ((gA X hX).2.2.2.1) rfl ((gA Y hY).2.2.2.1) rfl (by decide) (by decide) (by decide) (by decide) (by decide) (by decide) (Nat.le_of_ble_eq_true rfl) ?_
  have hC6 := hC5.cC (A' := M.1 (w (X + 3))) hA hY (fun j _ => congrFun (hC5.o (i := 3) hA hY hX nXY (by decide)) j)
  refine w_ic ?_
  refine w_isn ?_
  show wz _ _ _ _ [some (.inr (.inr (some (w Y)))), some (.inr (.inr (some (w X)))), some (.inl 0)] _ _ _ _ _
  refine r_cpY (d := d) hA gA rB hY hX nXY 8 0 _ _ _ _ (by decide) (by decide) hC6 (fun t _ q => by omega) (fun R9 M9 hC9 hz9 => ?_)
  refine w_aln rfl ?_
  refine w_aln rfl ?_
  refine w_gi ((gA X hX).1) rfl (by decide) rfl (congrFun (show _ = M.1 (w X) from hC9.o (i := 0) hA hY hX nXY (by decide)) 7) ?_
  refine w_pi ((gA Y hY).1) rfl (by decide) rfl (fun q => by cases q) ?_
  have hC7 := hC9.pf (f := 7) (v := (M.1 (w X) 7)) hA hY
  refine w_aln rfl ?_
  refine w_aln rfl ?_
  refine w_gi ((gA X hX).1) rfl (by decide) rfl (congrFun (show _ = M.1 (w X) from hC7.o (i := 0) hA hY hX nXY (by decide)) 8) ?_
  refine w_pi ((gA Y hY).1) rfl (by decide) rfl (fun q => by cases q) ?_
  have hC8 := hC7.pf (f := 8) (v := (M.1 (w X) 8)) hA hY
  refine w_aln rfl ?_
  refine w_aln rfl ?_
  refine w_gi ((gA X hX).1) rfl (by decide) rfl (congrFun (show _ = M.1 (w X) from hC8.o (i := 0) hA hY hX nXY (by decide)) 9) ?_
  refine w_pi ((gA Y hY).1) rfl (by decide) rfl (fun q => by cases q) ?_
  have hC9 := hC8.pf (f := 9) (v := (M.1 (w X) 9)) hA hY
  refine w_aln rfl ?_
  refine w_aln rfl ?_
  refine w_gi ((gA X hX).1) rfl (by decide) rfl (congrFun (show _ = M.1 (w X) from hC9.o (i := 0) hA hY hX nXY (by decide)) 10) ?_
  refine w_pi ((gA Y hY).1) rfl (by decide) rfl (fun q => by cases q) ?_
  have hC10 := hC9.pf (f := 10) (v := (M.1 (w X) 10)) hA hY
  refine w_aln rfl ?_
  refine w_aln rfl ?_
  refine w_gi ((gA X hX).1) rfl (by decide) rfl (congrFun (show _ = M.1 (w X) from hC10.o (i := 0) hA hY hX nXY (by decide)) 11) ?_
  refine w_pi ((gA Y hY).1) rfl (by decide) rfl (fun q => by cases q) ?_
  have hC11 := hC10.pf (f := 11) (v := (M.1 (w X) 11)) hA hY
  refine w_aln rfl ?_
  refine w_aln rfl ?_
  refine w_gi ((gA X hX).1) rfl (by decide) rfl (congrFun (show _ = M.1 (w X) from hC11.o (i := 0) hA hY hX nXY (by decide)) 12) ?_
  refine w_pi ((gA Y hY).1) rfl (by decide) rfl (fun q => by cases q) ?_
  have hC12 := hC11.pf (f := 12) (v := (M.1 (w X) 12)) hA hY
  refine w_aln rfl ?_
  refine w_aln rfl ?_
  refine w_gi ((gA X hX).1) rfl (by decide) rfl (congrFun (show _ = M.1 (w X) from hC12.o (i := 0) hA hY hX nXY (by decide)) 13) ?_
  refine w_pi ((gA Y hY).1) rfl (by decide) rfl (fun q => by cases q) ?_
  have hC13 := hC12.pf (f := 13) (v := (M.1 (w X) 13)) hA hY
  refine w_aln rfl ?_
  refine w_aln rfl ?_
  refine w_gi ((gA X hX).1) rfl (by decide) rfl (congrFun (show _ = M.1 (w X) from hC13.o (i := 0) hA hY hX nXY (by decide)) 14) ?_
  refine w_pi ((gA Y hY).1) rfl (by decide) rfl (fun q => by cases q) ?_
  have hC14 := hC13.pf (f := 14) (v := (M.1 (w X) 14)) hA hY
  refine w_ret (h _ ⟨hC14.1, hC14.2.1, fun f hf hf2 => (hC14.2.2.1 f hf).trans ?_, fun v hv j hj => ?_, fun t u ht hu => (hC14.2.2.2.2.2.2 t u ht hu).trans (congrFun (hz9 t ht) u)⟩)
  · rcases (by omega : f = 0 ∨ f = 1 ∨ f = 2 ∨ f = 7 ∨ f = 8 ∨ f = 9 ∨ f = 10 ∨ f = 11 ∨ f = 12 ∨ f = 13 ∨ f = 14) with e | e | e | e | e | e | e | e | e | e | e <;> subst e
    · exact (rv_up_n (by decide)).trans ((rv_up_n (by decide)).trans ((rv_up_n (by decide)).trans ((rv_up_n (by decide)).trans ((rv_up_n (by decide)).trans ((rv_up_n (by decide)).trans ((rv_up_n (by decide)).trans ((rv_up_n (by decide)).trans ((rv_up_n (by decide)).trans ((rv_up_n (by decide)).trans (rv_up_s))))))))))
    · exact (rv_up_n (by decide)).trans ((rv_up_n (by decide)).trans ((rv_up_n (by decide)).trans ((rv_up_n (by decide)).trans ((rv_up_n (by decide)).trans ((rv_up_n (by decide)).trans ((rv_up_n (by decide)).trans ((rv_up_n (by decide)).trans ((rv_up_n (by decide)).trans (rv_up_s)))))))))
    · exact (rv_up_n (by decide)).trans ((rv_up_n (by decide)).trans ((rv_up_n (by decide)).trans ((rv_up_n (by decide)).trans ((rv_up_n (by decide)).trans ((rv_up_n (by decide)).trans ((rv_up_n (by decide)).trans ((rv_up_n (by decide)).trans (rv_up_s))))))))
    · exact (rv_up_n (by decide)).trans ((rv_up_n (by decide)).trans ((rv_up_n (by decide)).trans ((rv_up_n (by decide)).trans ((rv_up_n (by decide)).trans ((rv_up_n (by decide)).trans ((rv_up_n (by decide)).trans (rv_up_s)))))))
    · exact (rv_up_n (by decide)).trans ((rv_up_n (by decide)).trans ((rv_up_n (by decide)).trans ((rv_up_n (by decide)).trans ((rv_up_n (by decide)).trans ((rv_up_n (by decide)).trans (rv_up_s))))))
    · exact (rv_up_n (by decide)).trans ((rv_up_n (by decide)).trans ((rv_up_n (by decide)).trans ((rv_up_n (by decide)).trans ((rv_up_n (by decide)).trans (rv_up_s)))))
    · exact (rv_up_n (by decide)).trans ((rv_up_n (by decide)).trans ((rv_up_n (by decide)).trans ((rv_up_n (by decide)).trans (rv_up_s))))
    · exact (rv_up_n (by decide)).trans ((rv_up_n (by decide)).trans ((rv_up_n (by decide)).trans (rv_up_s)))
    · exact (rv_up_n (by decide)).trans ((rv_up_n (by decide)).trans (rv_up_s))
    · exact (rv_up_n (by decide)).trans (rv_up_s)
    · exact rv_up_s
  · rcases (by omega : v = 0 ∨ v = 1 ∨ v = 2) with e | e | e <;> subst e
    · exact hC14.2.2.2.1 j hj
    · exact hC14.2.2.2.2.1 j hj
    · exact hC14.2.2.2.2.2.1 j hj
  
end
section
/-! ===== YEARS through image and restore, begin, on (laid by a program) ===== -/
theorem ye_fr1 {G : mj_G} {M M' : mj_M} {W : List (Nat × Nat × Nat)} (f : ab_frm W G M M') (key : ∀ q ∈ W, ¬ ye_tg q.1 ∧ q.1 ≠ 1007 ∧ q.1 ≠ 1011) (a k : Nat) (hn : ye_tg (G a).1 ∨ (G a).1 = 1007 ∨ (G a).1 = 1011) : M'.1 a k = M.1 a k ∧ M'.2.2 a k = M.2.2 a k := f a k (fun ⟨q, hq, g, _⟩ => by
  have hk := key q hq
  rw [g] at hk
  exact hn.elim hk.1 (fun e => e.elim hk.2.1 hk.2.2))
theorem ye_tgD {W : List (Nat × Nat × Nat)} (h : W.all (fun q => !(Nat.beq q.1 1010 || Nat.beq q.1 42100 || Nat.beq q.1 43100 || Nat.beq q.1 44100 || Nat.beq q.1 45104 || Nat.beq q.1 46100 || Nat.beq q.1 48102 || Nat.beq q.1 1007 || Nat.beq q.1 1011)) = true) : ∀ q ∈ W, ¬ ye_tg q.1 ∧ q.1 ≠ 1007 ∧ q.1 ≠ 1011 := fun q hq => by
  have h1 := List.all_eq_true.mp h q hq
  have h2 : (Nat.beq q.1 1010 || Nat.beq q.1 42100 || Nat.beq q.1 43100 || Nat.beq q.1 44100 || Nat.beq q.1 45104 || Nat.beq q.1 46100 || Nat.beq q.1 48102 || Nat.beq q.1 1007 || Nat.beq q.1 1011) = false := by
    cases e : (Nat.beq q.1 1010 || Nat.beq q.1 42100 || Nat.beq q.1 43100 || Nat.beq q.1 44100 || Nat.beq q.1 45104 || Nat.beq q.1 46100 || Nat.beq q.1 48102 || Nat.beq q.1 1007 || Nat.beq q.1 1011) with
    | false => rfl
    | true => rw [e] at h1; cases h1
  have nb : ∀ {n : Nat}, q.1 = n → Nat.beq q.1 n = true := fun e => by rw [e]; exact Nat.beq_refl _
  have no : ∀ {a b : Bool}, (a || b) = false → a = false ∧ b = false := fun {a b} e => by cases a <;> cases b <;> first | exact ⟨rfl, rfl⟩ | cases e
  obtain ⟨h2, c9⟩ := no h2
  obtain ⟨h2, c8⟩ := no h2
  obtain ⟨h2, c7⟩ := no h2
  obtain ⟨h2, c6⟩ := no h2
  obtain ⟨h2, c5⟩ := no h2
  obtain ⟨h2, c4⟩ := no h2
  obtain ⟨h2, c3⟩ := no h2
  obtain ⟨c1, c2⟩ := no h2
  refine ⟨?_, fun e => ?_, fun e => ?_⟩
  · rintro (e | e | e | e | e | e | e)
    · rw [nb e] at c1; cases c1
    · rw [nb e] at c2; cases c2
    · rw [nb e] at c3; cases c3
    · rw [nb e] at c4; cases c4
    · rw [nb e] at c5; cases c5
    · rw [nb e] at c6; cases c6
    · rw [nb e] at c7; cases c7
  · rw [nb e] at c8; cases c8
  · rw [nb e] at c9; cases c9
/-- between two memories YEARS' cells and STATES' references are alike -/
def ye_al (G : mj_G) (M M' : mj_M) : Prop := ∀ a, (ye_tg (G a).1 → M'.1 a = M.1 a) ∧ ((ye_tg (G a).1 ∨ (G a).1 = 1007 ∨ (G a).1 = 1011) → M'.2.2 a = M.2.2 a)
theorem ye_al.rf {G : mj_G} {M : mj_M} : ye_al G M M := fun _ => ⟨fun _ => rfl, fun _ => rfl⟩
theorem ye_al.tr {G : mj_G} {M M1 M2 : mj_M} (h : ye_al G M M1) (h2 : ye_al G M1 M2) : ye_al G M M2 := fun a => ⟨fun g => ((h2 a).1 g).trans ((h a).1 g), fun g => ((h2 a).2 g).trans ((h a).2 g)⟩
theorem ye_al.fr {G : mj_G} {M M' : mj_M} {W : List (Nat × Nat × Nat)} (f : ab_frm W G M M') (key : ∀ q ∈ W, ¬ ye_tg q.1 ∧ q.1 ≠ 1007 ∧ q.1 ≠ 1011) : ye_al G M M' := fun a => ⟨fun g => funext fun k => (ye_fr1 f key a k (Or.inl g)).1, fun g => funext fun k => (ye_fr1 f key a k g).2⟩
theorem ye_al.c0 {G : mj_G} {M : mj_M} {a b t n k : Nat} (g : G b = (t, n)) (h : ¬ ye_tg t) : ye_al G M (mj_cp0 M a b 0 0 k) := fun x => ⟨fun gx => cp0_o (fun e => h (by rw [e, g] at gx; exact gx)), fun _ => rfl⟩
theorem ye_al.p0 {G : mj_G} {M : mj_M} {b t n k : Nat} {v : Int} (g : G b = (t, n)) (h : ¬ ye_tg t) : ye_al G M (mj_p0 M b k v) := fun x => ⟨fun gx => wz_c (fun e => h (by rw [e, g] at gx; exact gx)), fun _ => rfl⟩
set_option maxRecDepth 100000 in
theorem r_X6_copyY {G : mj_G} {M : mj_M} {w : Nat → Nat} {st st' Y X : Nat} {Q : mj_P} (hI : ab_Inv G M) (gs : G st = (1007, 0)) (gs' : G st' = (1007, 0)) (hA : lq_A G w) (gA : lq_WA G w) (rB : ∀ Z, Z ∈ yw_Y → M.2.2 (w Z) 3 = some (w (Z + 1)) ∧ M.2.2 (w Z) 4 = some (w (Z + 2)) ∧ M.2.2 (w Z) 5 = some (w (Z + 3)) ∧ M.2.2 (w Z) 6 = some (w (Z + 4)) ∧ ∀ t, t < 8 → M.2.2 (w (Z + 4)) t = some (w (Z + 5 + t))) (hY : Y ∈ yw_Y) (hX : X ∈ yw_Y) (nXY : X ≠ Y) (y1 : M.2.2 st 3 = some (w X)) (y1' : M.2.2 st' 3 = some (w Y)) (hQ : ∀ M1 M2, ab_Inv G M1 → ye_al G M M1 → yk_cp w Y X M1 M2 → Q none G M2) : mj_R mj_tab 39 67 [.inr (.inr (some st')), .inr (.inr (some st))] G M Q := by
  obtain ⟨pl, s0, gpl⟩ := hn_rf (k := 0) (q := (1004, 0)) hI gs rfl (by decide) (by decide) (by decide) (fun e => absurd e (by decide))
  obtain ⟨pl', s0', gpl'⟩ := hn_rf (k := 0) (q := (1004, 0)) hI gs' rfl (by decide) (by decide) (by decide) (fun e => absurd e (by decide))
  obtain ⟨dl, d1, gdl⟩ := hn_rf (k := 1) (q := (1002, 0)) hI gs rfl (by decide) (by decide) (by decide) (fun e => absurd e (by decide))
  obtain ⟨dl', d1', gdl'⟩ := hn_rf (k := 1) (q := (1002, 0)) hI gs' rfl (by decide) (by decide) (by decide) (fun e => absurd e (by decide))
  obtain ⟨se, e1, gse⟩ := hn_rf (k := 2) (q := (1006, 0)) hI gs rfl (by decide) (by decide) (by decide) (fun e => absurd e (by decide))
  obtain ⟨se', e1', gse'⟩ := hn_rf (k := 2) (q := (1006, 0)) hI gs' rfl (by decide) (by decide) (by decide) (fun e => absurd e (by decide))
  refine ⟨Nat.le_of_ble_eq_true rfl, ?_⟩
  show wz 38 mt_X6_copy.2.2.2.2.1 Q mt_X6_copy.2.2.2.2.1 [some (.inr (.inr (some st'))), some (.inr (.inr (some st)))] [] G M _ _
  refine w_aln rfl ?_
  refine w_gr gs' rfl (by decide) rfl s0' ?_
  refine w_aln rfl ?_
  refine w_gr gs rfl (by decide) rfl s0 ?_
  refine w_cv (st := []) rfl gpl' rfl (Nat.le_of_ble_eq_true rfl) (fun kk h => h) (lw_cc (c := cd_30) (dd := 37) (ab_all_ok 223 (Nat.le_refl _) 33 (by decide)) rfl (by decide +kernel) gpl' gpl (by decide) (by decide) (by decide) (by decide) (by decide) (by decide) (by decide +kernel) hI (fun M1 I1 f1 => ?_))
  have a1 := ye_al.fr f1 (ye_tgD (by decide +kernel))
  have r7 : ∀ {a k b : Nat}, G a = (1007, 0) → M.2.2 a k = some b → M1.2.2 a k = some b := fun g e => (congrFun ((a1 _).2 (Or.inr (Or.inl (by rw [g])))) _).trans e
  obtain ⟨fa, f0, gfa⟩ := hn_rf (k := 0) (q := (16100, 12)) I1 gdl rfl (by decide) (by decide) (by decide) (fun e => absurd e (by decide))
  obtain ⟨sa, f1, gsa⟩ := hn_rf (k := 1) (q := (17100, 12)) I1 gdl rfl (by decide) (by decide) (by decide) (fun e => absurd e (by decide))
  obtain ⟨ca, f2, gca⟩ := hn_rf (k := 2) (q := (18100, 12)) I1 gdl rfl (by decide) (by decide) (by decide) (fun e => absurd e (by decide))
  obtain ⟨fa', f0', gfa'⟩ := hn_rf (k := 0) (q := (16100, 12)) I1 gdl' rfl (by decide) (by decide) (by decide) (fun e => absurd e (by decide))
  obtain ⟨sa', f1', gsa'⟩ := hn_rf (k := 1) (q := (17100, 12)) I1 gdl' rfl (by decide) (by decide) (by decide) (fun e => absurd e (by decide))
  obtain ⟨ca', f2', gca'⟩ := hn_rf (k := 2) (q := (18100, 12)) I1 gdl' rfl (by decide) (by decide) (by decide) (fun e => absurd e (by decide))
  refine w_aln rfl ?_
  refine w_gr gs' rfl (by decide) rfl (r7 gs' d1') ?_
  refine w_aln rfl ?_
  refine w_gr gs rfl (by decide) rfl (r7 gs d1) ?_
  refine w_cv (st := []) rfl gdl' rfl (Nat.le_of_ble_eq_true rfl) (fun kk h => h) ⟨Nat.le_of_ble_eq_true rfl, ?_⟩
  show wz 37 mt_X1_copy.2.2.2.2.1 _ mt_X1_copy.2.2.2.2.1 [some (.inr (.inr (some dl'))), some (.inr (.inr (some dl)))] [] _ _ _ _
  refine w_aln rfl ?_
  refine w_gr gdl rfl (by decide) rfl f0 ?_
  refine w_ic ?_
  refine w_aln rfl ?_
  refine w_gr gdl' rfl (by decide) rfl f0' ?_
  refine w_ic ?_
  refine w_bp ?_
  refine w_cp0 gfa rfl gfa' rfl (by decide) (by decide) (by decide) (by decide) (by decide) (by decide) (Nat.zero_le 8) ?_
  refine w_aln rfl ?_
  refine w_gr gdl rfl (by decide) rfl f1 ?_
  refine w_ic ?_
  refine w_aln rfl ?_
  refine w_gr gdl' rfl (by decide) rfl f1' ?_
  refine w_ic ?_
  refine w_bp ?_
  refine w_cp0 gsa rfl gsa' rfl (by decide) (by decide) (by decide) (by decide) (by decide) (by decide) (Nat.zero_le 8) ?_
  refine w_aln rfl ?_
  refine w_gr gdl rfl (by decide) rfl f2 ?_
  refine w_ic ?_
  refine w_aln rfl ?_
  refine w_gr gdl' rfl (by decide) rfl f2' ?_
  refine w_ic ?_
  refine w_bp ?_
  refine w_cp0 gca rfl gca' rfl (by decide) (by decide) (by decide) (by decide) (by decide) (by decide) (Nat.zero_le 8) ?_
  refine w_aln rfl ?_
  refine w_aln rfl ?_
  refine w_gi gdl rfl (by decide) rfl rfl ?_
  refine w_pi gdl' rfl (by decide) rfl (fun q => by cases q) ?_
  refine w_ret ?_
  have I2 : ab_Inv G (mj_cp0 (mj_cp0 (mj_cp0 M1 fa fa' 0 0 12) sa sa' 0 0 12) ca ca' 0 0 12) := hn_cp (hn_cp (hn_cp I1 gfa gfa') gsa gsa') gca gca'
  have I3 : ab_Inv G (mj_p0 (mj_cp0 (mj_cp0 (mj_cp0 M1 fa fa' 0 0 12) sa sa' 0 0 12) ca ca' 0 0 12) dl' 3 ((mj_cp0 (mj_cp0 (mj_cp0 M1 fa fa' 0 0 12) sa sa' 0 0 12) ca ca' 0 0 12).1 dl 3)) := I2.p0 (by
    have h3 := I2.1 dl 3
    rw [gdl] at h3
    rw [gdl']
    exact h3)
  have nt : ¬ ye_tg 16100 ∧ ¬ ye_tg 17100 ∧ ¬ ye_tg 18100 ∧ ¬ ye_tg 1002 := by unfold ye_tg; decide
  have a2 : ye_al G M1 (mj_p0 (mj_cp0 (mj_cp0 (mj_cp0 M1 fa fa' 0 0 12) sa sa' 0 0 12) ca ca' 0 0 12) dl' 3 ((mj_cp0 (mj_cp0 (mj_cp0 M1 fa fa' 0 0 12) sa sa' 0 0 12) ca ca' 0 0 12).1 dl 3)) := (((ye_al.c0 gfa' nt.1).tr (ye_al.c0 gsa' nt.2.1)).tr (ye_al.c0 gca' nt.2.2.1)).tr (ye_al.p0 gdl' nt.2.2.2)
  show wz 38 mt_X6_copy.2.2.2.2.1 Q (mt_X6_copy.2.2.2.2.1.drop 10) [some (.inr (.inr (some st'))), some (.inr (.inr (some st)))] [] G (mj_p0 (mj_cp0 (mj_cp0 (mj_cp0 M1 fa fa' 0 0 12) sa sa' 0 0 12) ca ca' 0 0 12) dl' 3 ((mj_cp0 (mj_cp0 (mj_cp0 M1 fa fa' 0 0 12) sa sa' 0 0 12) ca ca' 0 0 12).1 dl 3)) _ _
  revert I3 a2
  generalize mj_p0 (mj_cp0 (mj_cp0 (mj_cp0 M1 fa fa' 0 0 12) sa sa' 0 0 12) ca ca' 0 0 12) dl' 3 ((mj_cp0 (mj_cp0 (mj_cp0 M1 fa fa' 0 0 12) sa sa' 0 0 12) ca ca' 0 0 12).1 dl 3) = M2
  intro I3 a2
  have a3 := a1.tr a2
  have r8 : ∀ {a k b : Nat}, G a = (1007, 0) → M.2.2 a k = some b → M2.2.2 a k = some b := fun g e => (congrFun ((a3 _).2 (Or.inr (Or.inl (by rw [g])))) _).trans e
  refine w_aln rfl ?_
  refine w_gr gs' rfl (by decide) rfl (r8 gs' e1') ?_
  refine w_aln rfl ?_
  refine w_gr gs rfl (by decide) rfl (r8 gs e1) ?_
  refine w_cv (st := []) rfl gse' rfl (Nat.le_of_ble_eq_true rfl) (fun kk h => h) (lw_cc (c := cd_33) (dd := 37) (ab_all_ok 223 (Nat.le_refl _) 36 (by decide)) rfl (by decide +kernel) gse' gse (by decide) (by decide) (by decide) (by decide) (by decide) (by decide) (by decide +kernel) I3 (fun M3 I4 f4 => ?_))
  have a4 := a3.tr (ye_al.fr f4 (ye_tgD (by decide +kernel)))
  have r9 : ∀ {a k b : Nat}, (ye_tg (G a).1 ∨ (G a).1 = 1007 ∨ (G a).1 = 1011) → M.2.2 a k = some b → M3.2.2 a k = some b := fun g e => (congrFun ((a4 _).2 g) _).trans e
  refine w_aln rfl ?_
  refine w_gr gs' rfl (by decide) rfl (r9 (Or.inr (Or.inl (by rw [gs']))) y1') ?_
  refine w_aln rfl ?_
  refine w_gr gs rfl (by decide) rfl (r9 (Or.inr (Or.inl (by rw [gs]))) y1) ?_
  have t0 : ∀ Z, Z ∈ yw_Y → ye_tg (G (w Z)).1 ∧ ye_tg (G (w (Z + 4))).1 := fun Z hZ => by
    obtain ⟨g0, -, -, -, g4, -⟩ := gA Z hZ
    rw [g0, g4]; unfold ye_tg; decide
  refine w_cv (st := []) rfl (gA Y hY).1 rfl (Nat.le_of_ble_eq_true rfl) (fun kk h => h) (r_X10_copyC (d := 37) hA gA (fun Z hZ => ?_) hY hX nXY (by
    have q := I4.1 (w X) 0
    rw [(gA X hX).1] at q
    have q2 : (0 : Int) ≤ M3.1 (w X) 0 ∧ M3.1 (w X) 0 ≤ 1 := q
    omega) (fun M4 hc => ?_))
  · obtain ⟨b1, b2, b3, b4, b5⟩ := rB Z hZ
    exact ⟨r9 (Or.inl (t0 Z hZ).1) b1, r9 (Or.inl (t0 Z hZ).1) b2, r9 (Or.inl (t0 Z hZ).1) b3, r9 (Or.inl (t0 Z hZ).1) b4, fun t ht => r9 (Or.inl (t0 Z hZ).2) (b5 t ht)⟩
  · exact w_ret (hQ M3 M4 I4 a4 hc)
section YIM
variable {G : mj_G} {M : mj_M} {w : Nat → Nat} {x p q kc : Nat} {z1 : Int} {Q : mj_P}
theorem lq_imY (hA : lq_A G w) (hB : lq_B M w x) (wB : lq_WB M w) (k : Nat) (hk : k < 2) : ∃ st, M.2.2 (w 119) k = some st ∧ G st = (1007, 0) ∧ M.2.2 st 3 = some (w (lq_yi k)) := by
  have h3 := wB.2.2 k hk
  have : k = 0 ∨ k = 1 := by omega
  rcases this with rfl | rfl
  · exact ⟨w 246, hB.2.2.2.2.1, hA.2.2.2.2.1, h3⟩
  · exact ⟨w 291, hB.2.2.2.2.2.1, hA.2.2.2.2.2.1, h3⟩
/-- image, as far as YEARS go -/
theorem r_X11_imageY (hI : ab_Inv G M) (gx : G x = (1011, 0)) (hA : lq_A G w) (hB : lq_B M w x) (gA : lq_WA G w) (wB : lq_WB M w) (x4 : M.2.2 x 4 = some kc) (gkc : G kc = (48102, 2)) (h0 : ¬ (0 ≤ z1 ∧ z1 ≤ 1) → Q (some (.inl 0)) G M) (h1 : ∀ k : Nat, k < 2 → z1 = (k : Int) → ∀ M1 M2, ye_al G M M1 → yk_cp w (lq_yi k) 61 M1 M2 → Q (some (.inl 1)) G (mj_p0 M2 kc k 1)) : mj_R mj_tab 40 127 [.inr (.inr (some x)), .inl z1] G M Q := by
  have g119 := hA.2.2.2.2.2.2
  refine ⟨Nat.le_of_ble_eq_true rfl, ?_⟩
  show wz 39 mt_X11_image.2.2.2.2.1 Q mt_X11_image.2.2.2.2.1 [some (.inr (.inr (some x))), some (.inl z1)] [] G M _ _
  refine w_iln rfl ?_
  refine w_iflt (fun c => ?_) (fun c => ?_)
  · refine w_ic ?_
    exact w_iret (fun _ => Or.inl rfl) (h0 (by omega))
  · refine w_iln rfl ?_
    refine w_ic ?_
    refine w_cmlt (fun c2 => ?_) (fun c2 => ?_)
    · obtain ⟨k, hk, ek⟩ : ∃ k : Nat, k < 2 ∧ z1 = (k : Int) := ⟨z1.toNat, by omega, by omega⟩
      subst ek
      obtain ⟨st, s1, gst, s3⟩ := lq_imY hA hB wB k hk
      have tk : ((k : Int)).toNat = k := by omega
      refine w_aln rfl ?_
      refine w_gr gx rfl (by decide) rfl hB.2.2.2.1 ?_
      refine w_iln rfl ?_
      refine w_aald (b := st) g119 rfl (by omega) (by show (k : Int) < ((2 : Nat) : Int); omega) (by rw [tk]; exact s1) ?_
      refine w_aln rfl ?_
      refine w_gr gx rfl (by decide) rfl hB.2.1 ?_
      refine w_cv (st := []) rfl gst rfl (Nat.le_of_ble_eq_true rfl) (fun kk h => h) (r_X6_copyY hI hA.2.2.1 gst hA gA wB.1 (lq_yi_in k).1 (by decide) (fun e => (lq_yi_in k).2 e.symm) wB.2.1 s3 (fun M1 M2 I1 al hc => ?_))
      refine w_aln rfl ?_
      refine w_gr gx rfl (by decide) rfl (by rw [hc.1]; exact (congrFun ((al x).2 (Or.inr (Or.inr (by rw [gx])))) 4).trans x4) ?_
      refine w_iln rfl ?_
      refine w_ic ?_
      refine w_zast (Or.inr rfl) gkc rfl (by decide) (by omega) (by show (k : Int) < ((2 : Nat) : Int); omega) ?_
      refine w_ic ?_
      refine w_iret (fun _ => Or.inr rfl) ?_
      rw [tk]
      exact h1 k hk rfl M1 M2 al hc
    · refine w_ic ?_
      exact w_iret (fun _ => Or.inl rfl) (h0 (by omega))
/-- restore, as far as YEARS go -/
theorem r_X11_restoreY {ud : Nat} (hI : ab_Inv G M) (gx : G x = (1011, 0)) (hA : lq_A G w) (hB : lq_B M w x) (gA : lq_WA G w) (wB : lq_WB M w) (x4 : M.2.2 x 4 = some kc) (gkc : G kc = (48102, 2)) (x5 : M.2.2 x 5 = some ud) (gud : G ud = (1009, 0)) (h0 : (¬ (0 ≤ z1 ∧ z1 ≤ 1) ∨ ∃ k : Nat, k < 2 ∧ z1 = (k : Int) ∧ M.1 kc k = 0) → Q (some (.inl 0)) G M) (h1 : ∀ k : Nat, k < 2 → z1 = (k : Int) → M.1 kc k ≠ 0 → ∀ M1 M2, ye_al G M M1 → yk_cp w 61 (lq_yi k) M1 M2 → Q (some (.inl 1)) G (mj_p0 M2 ud 3 0)) : mj_R mj_tab 40 144 [.inr (.inr (some x)), .inl z1] G M Q := by
  have g119 := hA.2.2.2.2.2.2
  refine ⟨Nat.le_of_ble_eq_true rfl, ?_⟩
  show wz 39 mt_X11_restore.2.2.2.2.1 Q mt_X11_restore.2.2.2.2.1 [some (.inr (.inr (some x))), some (.inl z1)] [] G M _ _
  refine w_iln rfl ?_
  refine w_iflt (fun c => ?_) (fun c => ?_)
  · refine w_ic ?_
    exact w_iret (fun _ => Or.inl rfl) (h0 (Or.inl (by omega)))
  · refine w_iln rfl ?_
    refine w_ic ?_
    refine w_cmge (fun c2 => ?_) (fun c2 => ?_)
    · refine w_ic ?_
      exact w_iret (fun _ => Or.inl rfl) (h0 (Or.inl (by omega)))
    · obtain ⟨k, hk, ek⟩ : ∃ k : Nat, k < 2 ∧ z1 = (k : Int) := ⟨z1.toNat, by omega, by omega⟩
      subst ek
      obtain ⟨st, s1, gst, s3⟩ := lq_imY hA hB wB k hk
      have tk : ((k : Int)).toNat = k := by omega
      refine w_aln rfl ?_
      refine w_gr gx rfl (by decide) rfl x4 ?_
      refine w_iln rfl ?_
      refine w_zald (v := M.1 kc k) gkc rfl (by omega) (by show (k : Int) < ((2 : Nat) : Int); omega) (by rw [tk]) ?_
      refine w_ifne (fun c3 => ?_) (fun c3 => ?_)
      · refine w_aln rfl ?_
        refine w_gr gx rfl (by decide) rfl hB.2.1 ?_
        refine w_aln rfl ?_
        refine w_gr gx rfl (by decide) rfl hB.2.2.2.1 ?_
        refine w_iln rfl ?_
        refine w_aald (b := st) g119 rfl (by omega) (by show (k : Int) < ((2 : Nat) : Int); omega) (by rw [tk]; exact s1) ?_
        refine w_cv (st := []) rfl hA.2.2.1 rfl (Nat.le_of_ble_eq_true rfl) (fun kk h => h) (r_X6_copyY hI gst hA.2.2.1 hA gA wB.1 (by decide) (lq_yi_in k).1 (lq_yi_in k).2 s3 wB.2.1 (fun M1 M2 I1 al hc => ?_))
        refine w_aln rfl ?_
        refine w_gr gx rfl (by decide) rfl (by rw [hc.1]; exact (congrFun ((al x).2 (Or.inr (Or.inr (by rw [gx])))) 5).trans x5) ?_
        refine w_ic ?_
        refine w_pi gud rfl (by decide) rfl (fun q => by cases q) ?_
        refine w_ic ?_
        exact w_iret (fun _ => Or.inr rfl) (h1 k hk rfl c3 M1 M2 al hc)
      · refine w_ic ?_
        exact w_iret (fun _ => Or.inl rfl) (h0 (Or.inr ⟨k, hk, rfl, c3⟩))
end YIM
/-- the cells of the YEAR now, as a layout -/
theorem yw_L {G : mj_G} {M : mj_M} {x s p q dn ds : Nat} {w : Nat → Nat} (hA : lq_A G w) (hB : lq_B M w x) (hN : lq_N M w p q) (hG : rv_G6 (M.1 s) 0 w p M) (gA : lq_WA G w) (wB : lq_WB M w) (dA : lq_DA G w) (dB : lq_DB M w) (hDN : lq_DN M w dn ds) (hE : rd_E M (M.1 s) 0 w dn) : yc_L G M ye_u1 (w 61) (w (61 + 1)) (w (61 + 2)) (w (61 + 3)) (w (61 + 4)) (fun t => w (61 + 5 + t)) (w p) (w (p + 2)) (w (p + 11)) (w (p + 20)) (fun t => w (p + 3 + t)) (fun t => w (p + 12 + t)) (w dn) (w (dn + 1)) (w (dn + 2)) (w (dn + 3)) (M.1 s) := by
  obtain ⟨gpl, gna, gta, gba, gwa, gtr, gbr, itr, ibr, p0, p1, p2, p3, rt, rb⟩ := lq_K hA hB hN.pin.1
  obtain ⟨g0, g1, g2, g3, g4, g5⟩ := gA 61 (by decide)
  obtain ⟨y3, y4, y5, y6, yt⟩ := wB.1 61 (by decide)
  obtain ⟨d0, d1, d2, d3⟩ := dA dn hDN.nin.1
  obtain ⟨e0, e1, e2⟩ := dB.1 dn hDN.nin.1
  obtain ⟨⟨n4, n6, n7, n8, nt, nw⟩, nb, -⟩ := id hG
  obtain ⟨hE1, -⟩ := id hE
  refine ⟨ye_u1_U, g0, g1, g2, g3, g4, g5, fun t s ht hs e => ?_, gpl, gta, gba, gwa, gtr, gbr, d0, d1, d2, d3, y3, y4, y5, y6, yt, p1, p2, p3, rt, rb, e0, e1, e2, n4.symm, ?_, ?_, ?_, fun t v ht hv => ?_, fun v hv => ?_, fun t v ht hv => ?_, fun v hv => ?_, fun v hv => ?_, fun v hv => ?_⟩
  · have q := hA.1 _ _ (by omega) (by omega) e; omega
  · have q := n6.symm; rw [Nat.zero_add] at q; exact q
  · have q := n7.symm; rw [Nat.zero_add] at q; exact q
  · have q := n8.symm; rw [Nat.zero_add] at q; exact q
  · have q := (nt t v ht hv).symm; rw [Nat.zero_add] at q; exact q
  · have q := (nw v hv).symm; rw [Nat.zero_add] at q; exact q
  · have q := (nb t v ht hv).symm; rw [Nat.zero_add] at q; exact q
  · have q := (hE1 v hv).1; rw [Nat.zero_add] at q; exact q
  · have q := (hE1 v hv).2.1; rw [Nat.zero_add] at q; exact q
  · have q := (hE1 v hv).2.2; rw [Nat.zero_add] at q; exact q
/-- the YEAR now of the class holds T (run: whether one goes on) -/
def yw_C (M : mj_M) (w : Nat → Nat) (run : Int) (T : ye_T) : Prop := M.1 (w 61) 0 = run ∧ (∀ j, 222 ≤ j → j < 232 → M.1 (w 61) (ye_f j) = T.1 j) ∧ (∀ j : Nat, j < 12 → (j : Int) < T.1 222 → M.1 (w (61 + 1)) j = T.2.1 j ∧ M.1 (w (61 + 2)) j = T.2.2.1 j ∧ M.1 (w (61 + 3)) j = T.2.2.2.1 j) ∧ (∀ t u, t < 8 → u < 11 → M.1 (w (61 + 5 + t)) u = T.2.2.2.2 t u)
/-- all else of the class is as it was -/
def yw_o (w : Nat → Nat) (M M' : mj_M) : Prop := M'.2 = M.2 ∧ ∀ a, yw_ne w 61 a → M'.1 a = M.1 a
def ye_S (S : Nat → Int) (o : Nat) : ye_T := (fun j => S (o + j), fun j => S (o + (320 + 3 * j)), fun j => S (o + (321 + 3 * j)), fun j => S (o + (322 + 3 * j)), fun t u => S (o + (232 + 11 * t + u)))
theorem yw_oS {G : mj_G} {w : Nat → Nat} {M0 M M1 : mj_M} {g A B C : Nat → Int} {R : Nat → Nat → Int} (h : yc_S (w 61) (w (61 + 1)) (w (61 + 2)) (w (61 + 3)) (fun t => w (61 + 5 + t)) M0 g A B C R M1) (e2 : M0.2 = M.2) (e1 : ∀ a, a ≠ w 61 → M0.1 a = M.1 a) : yw_o w M M1 := ⟨h.1.trans e2, fun a ha => (h.2.1 a (ha 0 (by decide)) (ha 1 (by decide)) (ha 2 (by decide)) (ha 3 (by decide)) (fun t ht => by have q := ha (5 + t) (by omega); rw [← Nat.add_assoc] at q; exact q)).trans (e1 a (ha 0 (by decide)))⟩
def lr_on (H : Nat → Int) (n : Int) : Int := if H 221 = 1 ∧ 0 ≤ n ∧ n ≤ 12 then (if n < 12 - H 222 then n else 12 - H 222) else -1
theorem r_X11_beginY {G : mj_G} {M : mj_M} {x s p q dn ds : Nat} {w : Nat → Nat} {Q : mj_P} (gx : G x = (1011, 0)) (hA : lq_A G w) (hB : lq_B M w x) (hN : lq_N M w p q) (hG : rv_G6 (M.1 s) 0 w p M) (gA : lq_WA G w) (wB : lq_WB M w) (dA : lq_DA G w) (dB : lq_DB M w) (hDN : lq_DN M w dn ds) (hE : rd_E M (M.1 s) 0 w dn) (h0 : M.1 s 0 = 0 → Q (some (.inl 0)) G M) (h1 : M.1 s 0 ≠ 0 → ∀ M1, yw_o w M M1 → yw_C M1 w 1 (ye_fr (M.1 s)) → Q (some (.inl 1)) G M1) : mj_R mj_tab 40 110 [.inr (.inr (some x))] G M Q := by
  have hL := yw_L hA hB hN hG gA wB dA dB hDN hE
  have gnw := hA.2.2.1
  refine ⟨Nat.le_of_ble_eq_true rfl, ?_⟩
  show wz 39 mt_X11_begin.2.2.2.2.1 Q mt_X11_begin.2.2.2.2.1 [some (.inr (.inr (some x)))] [] G M _ _
  refine w_aln rfl ?_
  refine w_gr gx rfl (by decide) rfl hB.2.1 ?_
  refine w_gr gnw rfl (by decide) rfl hN.1 ?_
  refine w_gi hL.gpl rfl (by decide) rfl hL.n4 ?_
  refine w_ifne (fun c => ?_) (fun c => ?_)
  · refine w_aln rfl ?_
    refine w_gr gx rfl (by decide) rfl hB.2.1 ?_
    refine w_gr gnw rfl (by decide) rfl wB.2.1 ?_
    refine w_aln rfl ?_
    refine w_gr gx rfl (by decide) rfl hB.2.1 ?_
    refine w_gr gnw rfl (by decide) rfl hN.1 ?_
    refine w_cv (st := []) rfl hL.gy rfl (Nat.le_of_ble_eq_true rfl) (fun kk h => h) (r_X10_start (d := 38) hL (fun M1 hC => ?_))
    refine w_ic ?_
    refine w_iret (fun _ => Or.inr rfl) (h1 c M1 (yw_oS (G := G) hC rfl (fun a ha => wz_c ha)) ⟨hC.2.2.1.trans hn_s, fun j j1 j2 => hC.2.2.2.1 j j1 j2, fun j hj hjm => ?_, fun t u ht hu => hC.vR ht hu⟩)
    have e0 : (ye_fr (M.1 s)).1 222 = 0 := rfl
    rw [e0] at hjm; omega
  · refine w_ic ?_
    exact w_iret (fun _ => Or.inl rfl) (h0 (by omega))
theorem r_X11_onY {G : mj_G} {M : mj_M} {x s p q dn ds : Nat} {w : Nat → Nat} {Q : mj_P} (gx : G x = (1011, 0)) (hA : lq_A G w) (hB : lq_B M w x) (hN : lq_N M w p q) (hG : rv_G6 (M.1 s) 0 w p M) (gA : lq_WA G w) (wB : lq_WB M w) (dA : lq_DA G w) (dB : lq_DB M w) (hDN : lq_DN M w dn ds) (hE : rd_E M (M.1 s) 0 w dn) {n : Int} (hH : ye_H (M.1 s)) (h221 : M.1 (w 61) 0 = M.1 s 221) (hr : M.1 s 221 = 0 ∨ M.1 s 221 = 1) (hC : M.1 s 221 = 1 → yw_C M w 1 (ye_S (M.1 s) 0) ∧ ye_okT (M.1 s) (ye_S (M.1 s) 0)) (h0 : ¬ (M.1 s 221 = 1 ∧ 0 ≤ n ∧ n ≤ 12) → Q (some (.inl (-1))) G M) (h1 : M.1 s 221 = 1 ∧ 0 ≤ n ∧ n ≤ 12 → ∀ M1, yw_o w M M1 → yw_C M1 w 1 (ye_it (M.1 s) (fun _ => 0) (ye_S (M.1 s) 0) (lr_on (M.1 s) n).toNat) → Q (some (.inl (lr_on (M.1 s) n))) G M1) : mj_R mj_tab 40 137 [.inr (.inr (some x)), .inl n] G M Q := by
  have hL := yw_L hA hB hN hG gA wB dA dB hDN hE
  have gnw := hA.2.2.1
  have no : ∀ cb sb, ¬ (M.1 s 221 = 1 ∧ 0 ≤ n ∧ n ≤ 12) → wz 39 mt_X11_on.2.2.2.2.1 Q (mt_X11_on.2.2.2.2.1.drop 10) [some (.inr (.inr (some x))), some (.inl n), none] [] G M cb sb := fun _ _ c => by
    refine w_ic ?_
    exact w_iret (fun q => by cases q) (h0 c)
  refine ⟨Nat.le_of_ble_eq_true rfl, ?_⟩
  show wz 39 mt_X11_on.2.2.2.2.1 Q mt_X11_on.2.2.2.2.1 [some (.inr (.inr (some x))), some (.inl n), none] [] G M _ _
  refine w_iln rfl ?_
  refine w_iflt (fun c => no _ _ (by omega)) (fun c => ?_)
  refine w_iln rfl ?_
  refine w_bp ?_
  refine w_cmgt (fun c2 => no _ _ (by omega)) (fun c2 => ?_)
  refine w_aln rfl ?_
  refine w_gr gx rfl (by decide) rfl hB.2.1 ?_
  refine w_gr gnw rfl (by decide) rfl wB.2.1 ?_
  refine w_gi hL.gy rfl (by decide) rfl h221 ?_
  refine w_ifne (fun c3 => ?_) (fun c3 => no _ _ (by omega))
  have h1y : M.1 s 221 = 1 := by omega
  obtain ⟨⟨q0, q1, q2, q3⟩, hk⟩ := hC h1y
  have hT : yc_T (w 61) (w (61 + 1)) (w (61 + 2)) (w (61 + 3)) (fun t => w (61 + 5 + t)) M (ye_S (M.1 s) 0) M := ⟨M.1 (w (61 + 1)), M.1 (w (61 + 2)), M.1 (w (61 + 3)), ⟨rfl, fun _ _ _ _ _ _ => rfl, rfl, q1, fun _ _ => rfl, fun _ _ => rfl, fun _ _ => rfl, q3⟩, q2⟩
  have ed : lr_on (M.1 s) n = (if n < 12 - (ye_S (M.1 s) 0).1 222 then n else 12 - (ye_S (M.1 s) 0).1 222) := by
    unfold lr_on; rw [if_pos ⟨h1y, by omega, by omega⟩]
    show _ = (if n < 12 - M.1 s (0 + 222) then n else 12 - M.1 s (0 + 222))
    rw [Nat.zero_add]
  refine w_aln rfl ?_
  refine w_gr gx rfl (by decide) rfl hB.2.1 ?_
  refine w_gr gnw rfl (by decide) rfl wB.2.1 ?_
  refine w_gi hL.gy rfl (by decide) rfl hT.m ?_
  refine w_isn ?_
  refine w_aln rfl ?_
  refine w_gr gx rfl (by decide) rfl hB.2.1 ?_
  refine w_gr gnw rfl (by decide) rfl wB.2.1 ?_
  refine w_aln rfl ?_
  refine w_gr gx rfl (by decide) rfl hB.2.1 ?_
  refine w_gr gnw rfl (by decide) rfl hN.1 ?_
  refine w_aln rfl ?_
  refine w_gr gx rfl (by decide) rfl hB.2.1 ?_
  refine w_gr gnw rfl (by decide) rfl hDN.1 ?_
  refine w_iln rfl ?_
  refine w_cv (st := []) rfl hL.gy rfl (Nat.le_of_ble_eq_true rfl) (fun kk h => h) (r_X10_goOn (d := 35) hL hT hH hk ⟨by omega, by omega⟩ ed (fun M1 hT1 => ?_))
  have k0 := hk.1
  have hd2 : 0 ≤ lr_on (M.1 s) n ∧ lr_on (M.1 s) n ≤ 12 - (ye_S (M.1 s) 0).1 222 := by rw [ed]; split <;> omega
  have e22 := (ye_it_ok hH hk (xs := fun _ => 0) (fun _ => ⟨Int.le_refl 0, by decide⟩) (lr_on (M.1 s) n).toNat (by omega)).2
  obtain ⟨A1, B1, C1, hC1, hrl⟩ := hT1
  have r2 : M1.2 = M.2 := hC1.1
  refine w_aln rfl ?_
  refine w_gr gx rfl (by decide) rfl (by rw [r2]; exact hB.2.1) ?_
  refine w_gr gnw rfl (by decide) rfl (by rw [r2]; exact wB.2.1) ?_
  refine w_gi hL.gy rfl (by decide) rfl (hC1.f (j := 222) (by decide) (by decide) rfl) ?_
  refine w_iln rfl ?_
  refine w_sub ⟨by omega, by omega⟩ ?_
  refine w_iret (fun q => by cases q) ?_
  rw [show (ye_it (M.1 s) (fun _ => 0) (ye_S (M.1 s) 0) (lr_on (M.1 s) n).toNat).1 222 - (ye_S (M.1 s) 0).1 222 = lr_on (M.1 s) n by omega]
  exact h1 ⟨h1y, by omega, by omega⟩ M1 (yw_oS (G := G) hC1 rfl (fun _ _ => rfl)) ⟨hC1.2.2.1.trans q0, hC1.2.2.2.1, fun j hj hjm => by
    obtain ⟨a, b, c⟩ := hrl j hj hjm
    exact ⟨(hC1.vA hj).trans a, (hC1.vB hj).trans b, (hC1.vC hj).trans c⟩, fun t u ht hu => hC1.vR ht hu⟩
end
section
/-! ===== begin, on of the reference (laid by a program) ===== -/
section YM
variable {G : mj_G} {M M' : mj_M} {s m : Nat} {H : Nat → Int}
theorem yq_L.th (h : yq_L G M s m H) : yq_L G (mj_p0 M m 0 0) s m H := ⟨h.1, h.2.1, h.2.2.1, fun j hj => (congrFun (wz_c h.sm) j).trans (h.2.2.2.1 j hj), (hn_n (Or.inr (by decide))).trans h.2.2.2.2⟩
theorem yq_T.S0 (hL : yq_L G M s m H) : yq_T s m (mj_p0 M m 0 0) (ye_S (M.1 s) 0) (mj_p0 M m 0 0) := by
  have e : (mj_p0 M m 0 0).1 s = M.1 s := wz_c hL.sm
  refine ⟨_, _, _, rfl, fun _ _ _ => rfl, fun _ _ _ _ => rfl, ⟨rfl, rfl, rfl⟩, fun _ _ => rfl, fun j _ _ => ?_, fun j _ => ⟨?_, ?_, ?_⟩, fun t u _ _ => ?_⟩
  · rw [e]; show M.1 s j = M.1 s (0 + j); rw [Nat.zero_add]
  · rw [e]; show _ = M.1 s (0 + (320 + 3 * j)); rw [Nat.zero_add]
  · rw [e]; show _ = M.1 s (0 + (321 + 3 * j)); rw [Nat.zero_add]
  · rw [e]; show _ = M.1 s (0 + (322 + 3 * j)); rw [Nat.zero_add]
  · rw [e]; show _ = M.1 s (0 + (232 + 11 * t + u)); rw [Nat.zero_add]
/-- s holds the YEAR T, the PLAIN and CONTRACTS as they were -/
def yw_R (s m : Nat) (run : Int) (T : ye_T) (M M' : mj_M) : Prop := (∀ j, j < 221 ∨ (356 ≤ j ∧ j < 537) → M'.1 s j = M.1 s j) ∧ M'.1 s 221 = run ∧ (∀ j, 222 ≤ j → j < 232 → M'.1 s j = T.1 j) ∧ (∀ j, j < 12 → M'.1 s (320 + 3 * j) = T.2.1 j ∧ M'.1 s (321 + 3 * j) = T.2.2.1 j ∧ M'.1 s (322 + 3 * j) = T.2.2.2.1 j) ∧ (∀ t u, t < 8 → u < 11 → M'.1 s (232 + 11 * t + u) = T.2.2.2.2 t u) ∧ M'.1 m 32 = M.1 m 32
theorem yq_T.wR {T : ye_T} (hL : yq_L G M s m H) (h : yq_T s m (mj_p0 M m 0 0) T M') (run : Int) (hr : M.1 s 221 = run) : yw_R s m run T M M' := by
  obtain ⟨L, O, P, c1, c2, c3, -, c5, c6, c7, c8⟩ := h
  have e : (mj_p0 M m 0 0).1 s = M.1 s := wz_c hL.sm
  rw [e] at c5
  exact ⟨fun j hj => c5 j (by omega), (c5 221 (by decide)).trans hr, c6, c7, c8, (c3 32 (by decide) (by decide) (by decide)).trans (hn_n (Or.inr (by decide)))⟩
end YM
theorem r_onR {G : mj_G} {M0 : mj_M} {s m : Nat} {H : Nat → Int} {Q : mj_P} {d : Nat} (hL : yq_L G M0 s m H) (hH : ye_H H) {T : ye_T} (hk : ye_okT H T) {n dn : Int} (hd : 0 ≤ dn ∧ dn ≤ 12 - T.1 222) : ∀ (f : Nat) (i : Int) (M : mj_M) (cb sb : Nat), i + f = dn → 0 ≤ i → yq_T s m M0 (ye_it H (fun _ => 0) T i.toNat) M → (∀ M, yq_T s m M0 (ye_it H (fun _ => 0) T dn.toNat) M → Q (some (.inl dn)) G M) → wz (d + 4) mt_X12_on.2.2.2.2.1 Q (mt_X12_on.2.2.2.2.1.drop 34) [some (.inr (.inr (some m))), some (.inl n), some (.inl dn), some (.inl i)] [] G M cb sb := by
  have dn12 : dn ≤ 12 := by have := hk.1.1; omega
  intro f
  induction f with
  | zero =>
    intro i M cb sb e i0 hT h
    obtain rfl : i = dn := by omega
    refine w_iln rfl ?_
    refine w_iln rfl ?_
    refine w_cmge (fun c1 => ?_) (fun c1 => ?_)
    · skip
      refine w_iln rfl ?_
      exact w_iret (fun q => by cases q) (h _ hT)
    · exfalso; omega
  | succ f ih =>
    intro i M cb sb e i0 hT h
    have hok := ye_it_ok hH hk (xs := fun _ => 0) (fun _ => ⟨Int.le_refl 0, by decide⟩) i.toNat (by omega)
    have et : (i + 1).toNat = i.toNat + 1 := by omega
    refine w_iln rfl ?_
    refine w_iln rfl ?_
    refine w_cmge (fun c1 => ?_) (fun c1 => ?_)
    · exfalso; omega
    · skip
      refine w_aln rfl ?_
      refine w_ic ?_
      refine w_cv (st := []) rfl hL.gm rfl (Nat.le_of_ble_eq_true rfl) (fun kk h => h) (r_monthT (d := d) hL hT hH hok.1 (by rw [hok.2]; omega) ⟨Int.le_refl 0, by decide⟩ (fun M1 hT1 => ?_))
      refine w_ii rfl ⟨by show (-2147483648 : Int) ≤ i + 1; omega, by show i + 1 < (2147483648 : Int); omega⟩ ?_
      show wz _ _ _ _ [some (.inr (.inr (some m))), some (.inl n), some (.inl dn), some (.inl (i + 1))] _ _ _ _ _
      refine w_goto ?_
      exact ih (i + 1) _ _ _ (by omega) (by omega) (by rw [et]; exact hT1) h
theorem r_X12_onY {G : mj_G} {M : mj_M} {s m : Nat} {Q : mj_P} (hL : yq_L G M s m (M.1 s)) (hH : ye_H2 (M.1 s)) {n : Int} (hr : M.1 s 221 = 0 ∨ M.1 s 221 = 1) (hk : M.1 s 221 = 1 → ye_okT (M.1 s) (ye_S (M.1 s) 0)) (h0 : ¬ (M.1 s 221 = 1 ∧ 0 ≤ n ∧ n ≤ 12) → Q (some (.inl (-1))) G (mj_p0 M m 0 0)) (h1 : M.1 s 221 = 1 ∧ 0 ≤ n ∧ n ≤ 12 → ∀ M1, yw_R s m 1 (ye_it (M.1 s) (fun _ => 0) (ye_S (M.1 s) 0) (lr_on (M.1 s) n).toNat) M M1 → Q (some (.inl (lr_on (M.1 s) n))) G M1) : mj_R mj_tab (35 + 5) 221 [.inr (.inr (some m)), .inl n] G M Q := by
  have b222 : M.1 s 221 = 1 → 0 ≤ M.1 s 222 ∧ M.1 s 222 ≤ 12 := fun c => by
    have q := (hk c).1
    have e : (ye_S (M.1 s) 0).1 222 = M.1 s 222 := by show M.1 s (0 + 222) = _; rw [Nat.zero_add]
    rw [e] at q; exact q
  refine ⟨Nat.le_of_ble_eq_true rfl, ?_⟩
  show wz 39 mt_X12_on.2.2.2.2.1 _ mt_X12_on.2.2.2.2.1 [some (.inr (.inr (some m))), some (.inl n), none, none] [] G M _ _
  refine w_aln rfl ?_
  refine w_ic ?_
  refine w_pi hL.gm rfl (by decide) rfl (fun q => by cases q) ?_
  refine w_aln rfl ?_
  refine w_gr hL.gm rfl (by decide) rfl (hL.m6) ?_
  refine w_sp ?_
  refine w_iald (v := (M.1 s 221)) hL.gs rfl (by show (0 : Int) ≤ 221; omega) (by show 221 < ((537 : Nat) : Int); omega) ((congrFun (wz_c hL.sm) _).trans (congrArg (M.1 s) (show (221 : Int).toNat = 221 by omega))) ?_
  refine w_ifeq (fun c1 => ?_) (fun c1 => ?_)
  · skip
    refine w_ic ?_
    exact w_iret (fun q => by cases q) (h0 (by omega))
  · skip
    refine w_iln rfl ?_
    refine w_ic ?_
    refine w_bp ?_
    refine w_cs (st := []) rfl (Nat.le_of_ble_eq_true rfl) (fun kk h => h) ⟨Nat.le_of_ble_eq_true rfl, ?_⟩
    show wz (35 + 3) mt_X12_isIn.2.2.2.2.1 _ mt_X12_isIn.2.2.2.2.1 [some (.inl n), some (.inl 0), some (.inl 12)] [] _ _ _ _
    refine w_iln rfl ?_
    refine w_iln rfl ?_
    refine w_cmlt (fun c2 => ?_) (fun c2 => ?_)
    · skip
      refine w_ic ?_
      refine w_iret (fun _ => Or.inl rfl) ?_
      refine w_ifne (fun c3 => ?_) (fun c3 => ?_)
      · exfalso; omega
      · skip
        refine w_ic ?_
        exact w_iret (fun q => by cases q) (h0 (by omega))
    · skip
      refine w_iln rfl ?_
      refine w_iln rfl ?_
      refine w_cmgt (fun c4 => ?_) (fun c4 => ?_)
      · skip
        refine w_ic ?_
        refine w_iret (fun _ => Or.inl rfl) ?_
        refine w_ifne (fun c5 => ?_) (fun c5 => ?_)
        · exfalso; omega
        · skip
          refine w_ic ?_
          exact w_iret (fun q => by cases q) (h0 (by omega))
      · skip
        refine w_ic ?_
        refine w_goto ?_
        refine w_iret (fun _ => Or.inr rfl) ?_
        refine w_ifne (fun c6 => ?_) (fun c6 => ?_)
        · skip
          have hb := b222 (by omega)
          refine w_iln rfl ?_
          refine w_bp ?_
          refine w_aln rfl ?_
          refine w_gr hL.gm rfl (by decide) rfl (hL.m6) ?_
          refine w_sp ?_
          refine w_iald (v := (M.1 s 222)) hL.gs rfl (by show (0 : Int) ≤ 222; omega) (by show 222 < ((537 : Nat) : Int); omega) ((congrFun (wz_c hL.sm) _).trans (congrArg (M.1 s) (show (222 : Int).toNat = 222 by omega))) ?_
          refine w_sub ⟨by show (-2147483648 : Int) ≤ 12 - (M.1 s 222); omega, by show 12 - (M.1 s 222) < (2147483648 : Int); omega⟩ ?_
          refine w_cmge (fun c7 => ?_) (fun c7 => ?_)
          · skip
            refine w_bp ?_
            refine w_aln rfl ?_
            refine w_gr hL.gm rfl (by decide) rfl (hL.m6) ?_
            refine w_sp ?_
            refine w_iald (v := (M.1 s 222)) hL.gs rfl (by show (0 : Int) ≤ 222; omega) (by show 222 < ((537 : Nat) : Int); omega) ((congrFun (wz_c hL.sm) _).trans (congrArg (M.1 s) (show (222 : Int).toNat = 222 by omega))) ?_
            refine w_sub ⟨by show (-2147483648 : Int) ≤ 12 - (M.1 s 222); omega, by show 12 - (M.1 s 222) < (2147483648 : Int); omega⟩ ?_
            refine w_isn ?_
            show wz _ _ _ _ [some (.inr (.inr (some m))), some (.inl n), some (.inl (12 - (M.1 s 222))), none] _ _ _ _ _
            refine w_ic ?_
            refine w_isn ?_
            show wz _ _ _ _ [some (.inr (.inr (some m))), some (.inl n), some (.inl (12 - (M.1 s 222))), some (.inl 0)] _ _ _ _ _
            have h1y : M.1 s 221 = 1 := by omega
            have e22 : (ye_S (M.1 s) 0).1 222 = M.1 s 222 := by show M.1 s (0 + 222) = _; rw [Nat.zero_add]
            have hb := b222 h1y
            have ed : lr_on (M.1 s) n = 12 - (M.1 s 222) := by unfold lr_on; rw [if_pos ⟨h1y, by omega, by omega⟩]; split <;> omega
            rw [← ed]
            refine r_onR (d := 35) hL.th hH.1 (hk h1y) (by rw [e22]; omega) (lr_on (M.1 s) n).toNat 0 _ _ _ (by omega) (by decide) (yq_T.S0 hL) (fun M1 hT1 => h1 ⟨h1y, by omega, by omega⟩ M1 (hT1.wR hL 1 h1y))
          · skip
            refine w_iln rfl ?_
            refine w_goto ?_
            refine w_isn ?_
            show wz _ _ _ _ [some (.inr (.inr (some m))), some (.inl n), some (.inl n), none] _ _ _ _ _
            refine w_ic ?_
            refine w_isn ?_
            show wz _ _ _ _ [some (.inr (.inr (some m))), some (.inl n), some (.inl n), some (.inl 0)] _ _ _ _ _
            have h1y : M.1 s 221 = 1 := by omega
            have e22 : (ye_S (M.1 s) 0).1 222 = M.1 s 222 := by show M.1 s (0 + 222) = _; rw [Nat.zero_add]
            have hb := b222 h1y
            have ed : lr_on (M.1 s) n = n := by unfold lr_on; rw [if_pos ⟨h1y, by omega, by omega⟩]; split <;> omega
            rw [← ed]
            refine r_onR (d := 35) hL.th hH.1 (hk h1y) (by rw [e22]; omega) (lr_on (M.1 s) n).toNat 0 _ _ _ (by omega) (by decide) (yq_T.S0 hL) (fun M1 hT1 => h1 ⟨h1y, by omega, by omega⟩ M1 (hT1.wR hL 1 h1y))
        · exfalso; omega
theorem r_X12_beginY {G : mj_G} {M : mj_M} {s m : Nat} {Q : mj_P} (hL : yq_L G M s m (M.1 s)) (hH : ye_H2 (M.1 s)) (h0 : M.1 s 0 = 0 → Q (some (.inl 0)) G (mj_p0 M m 0 0)) (h1 : M.1 s 0 ≠ 0 → ∀ M1, yw_R s m 1 (ye_fr (M.1 s)) M M1 → Q (some (.inl 1)) G M1) : mj_R mj_tab (37 + 3) 162 [.inr (.inr (some m))] G M Q := by
  refine ⟨Nat.le_of_ble_eq_true rfl, ?_⟩
  show wz 39 mt_X12_begin.2.2.2.2.1 _ mt_X12_begin.2.2.2.2.1 [some (.inr (.inr (some m)))] [] G M _ _
  refine w_aln rfl ?_
  refine w_ic ?_
  refine w_pi hL.gm rfl (by decide) rfl (fun q => by cases q) ?_
  refine w_aln rfl ?_
  refine w_gr hL.gm rfl (by decide) rfl (hL.m6) ?_
  refine w_ic ?_
  refine w_iald (v := (M.1 s 0)) hL.gs rfl (by show (0 : Int) ≤ 0; omega) (by show 0 < ((537 : Nat) : Int); omega) ((congrFun (wz_c hL.sm) _).trans (congrArg (M.1 s) (show (0 : Int).toNat = 0 by omega))) ?_
  refine w_ifne (fun c1 => ?_) (fun c1 => ?_)
  · skip
    refine w_aln rfl ?_
    refine w_cv (st := []) rfl hL.gm rfl (Nat.le_of_ble_eq_true rfl) (fun kk h => h) (r_X12_beginsC (d := 37) hL.gm hL.gs hL.m6 (fun j hj => hL.th.vn hj) hH.1.1 hH.2 (fun M1 hZ => ?_))
    refine w_ic ?_
    obtain ⟨z1, z2, z3, z4, z5, z6, z7⟩ := hZ
    have e : (mj_p0 M m 0 0).1 s = M.1 s := wz_c hL.sm
    rw [e] at z3
    exact w_iret (fun _ => Or.inr rfl) (h1 (by omega) _ ⟨z3, z4, z5, z6, z7, (congrFun (z2 m hL.sm.symm) 32).trans (hn_n (Or.inr (by decide)))⟩)
  · skip
    refine w_ic ?_
    exact w_iret (fun _ => Or.inl rfl) (h0 (by omega))
end
section
/-! ===== YEARS now and of the images, alike on both sides ===== -/
/-- the cells of the YEAR at Y tell T -/
def yw_V (M : mj_M) (w : Nat → Nat) (Y : Nat) (T : ye_T) : Prop := (∀ j, 222 ≤ j → j < 232 → M.1 (w Y) (ye_f j) = T.1 j) ∧ (∀ j : Nat, j < 12 → (j : Int) < T.1 222 → M.1 (w (Y + 1)) j = T.2.1 j ∧ M.1 (w (Y + 2)) j = T.2.2.1 j ∧ M.1 (w (Y + 3)) j = T.2.2.2.1 j) ∧ (∀ t u, t < 8 → u < 11 → M.1 (w (Y + 5 + t)) u = T.2.2.2.2 t u)
def yw_E (M : mj_M) (H : Nat → Int) (o : Nat) (w : Nat → Nat) (Y : Nat) : Prop := M.1 (w Y) 0 = H (o + 221) ∧ (H (o + 221) = 0 ∨ H (o + 221) = 1) ∧ (H (o + 221) = 1 → yw_V M w Y (ye_S H o) ∧ ye_okT (fun j => H (o + j)) (ye_S H o))
/-- the YEAR at Y is the one that H tells from o on; the CONTRACTS there are in order -/
def yw_F (M : mj_M) (H : Nat → Int) (o : Nat) (w : Nat → Nat) (Y : Nat) : Prop := yw_E M H o w Y ∧ yd_ok (fun j => H (o + j))
def ye_eq (T T' : ye_T) : Prop := (∀ j, 222 ≤ j → j < 232 → T'.1 j = T.1 j) ∧ (∀ j, j < 12 → T'.2.1 j = T.2.1 j ∧ T'.2.2.1 j = T.2.2.1 j ∧ T'.2.2.2.1 j = T.2.2.2.1 j) ∧ (∀ t u, t < 8 → u < 11 → T'.2.2.2.2 t u = T.2.2.2.2 t u)
def yw_q (M M' : mj_M) (w : Nat → Nat) (Y Y' : Nat) : Prop := (∀ f, f < 15 → f < 3 ∨ 7 ≤ f → M'.1 (w Y') f = M.1 (w Y) f) ∧ (∀ v, v < 3 → ∀ j, j < 12 → M'.1 (w (Y' + (1 + v))) j = M.1 (w (Y + (1 + v))) j) ∧ (∀ t u, t < 8 → u < 11 → M'.1 (w (Y' + 5 + t)) u = M.1 (w (Y + 5 + t)) u)
def lq_W (G : mj_G) (M : mj_M) (m s kp kc : Nat) (w : Nat → Nat) : Prop := lq_WA G w ∧ lq_WB M w ∧ M.1 m 32 = -1 ∧ yw_F M (M.1 s) 0 w 61 ∧ ∀ k, k < 2 → M.1 kc k ≠ 0 → yw_F M (M.1 kp) (538 * k) w (lq_yi k)
/-- frames that leave YEARS of the class -/
abbrev lq_Wu (W : List (Nat × Nat × Nat)) : Prop := ∀ q ∈ W, q.1 ≠ 1010 ∧ q.1 ≠ 42100 ∧ q.1 ≠ 43100 ∧ q.1 ≠ 44100 ∧ q.1 ≠ 45104 ∧ q.1 ≠ 46100 ∧ (q.1 ≠ 1007 ∨ q.2.2 < 3 ∨ 3 < q.2.1)
abbrev lq_Ww (W : List (Nat × Nat × Nat)) : Prop := ∀ q ∈ W, (q.1 ≠ 1010 ∧ q.1 ≠ 42100 ∧ q.1 ≠ 43100 ∧ q.1 ≠ 44100 ∧ q.1 ≠ 45104 ∧ q.1 ≠ 46100 ∧ (q.1 ≠ 1007 ∨ q.2.2 < 3 ∨ 3 < q.2.1)) ∧ (q.1 ≠ 51100 ∨ (88 ≤ q.2.1 ∧ q.2.2 < 184) ∨ 356 ≤ q.2.1) ∧ q.1 ≠ 70100 ∧ q.1 ≠ 48102 ∧ (q.1 ≠ 1012 ∨ q.2.2 < 32 ∨ 32 < q.2.1)
section YN
variable {G : mj_G} {M M' M1 M2 : mj_M} {x s m kp kc tp ud dn : Nat} {w : Nat → Nat} {z1 z : Int} {H H' : Nat → Int} {o o' Y Y' : Nat} {T T' : ye_T}
theorem ye_okT.cg (h : ye_okT H T) (e0 : H' 0 = H 0) (e5 : ∀ t, t < 8 → H' (5 + 9 * t) = H (5 + 9 * t)) (e : ye_eq T T') : ye_okT H' T' := by
  obtain ⟨eg, ea, er⟩ := e
  obtain ⟨a1, a2, a3, a4, a5, a6, a7, a8, a9, a10, a11, a12, a13⟩ := h
  have g2 := eg 222 (by decide) (by decide)
  have g3 := eg 223 (by decide) (by decide)
  have g4 := eg 224 (by decide) (by decide)
  have g5 := eg 225 (by decide) (by decide)
  have g6 := eg 226 (by decide) (by decide)
  have g7 := eg 227 (by decide) (by decide)
  have g8 := eg 228 (by decide) (by decide)
  have g9 := eg 229 (by decide) (by decide)
  have ga := eg 230 (by decide) (by decide)
  have gb := eg 231 (by decide) (by decide)
  refine ⟨by rw [g2]; exact a1, by rw [g3, e0]; exact a2, by rw [g4, g2]; exact a3, by rw [g5]; exact a4, by rw [g6, g2]; exact a5, by rw [g7, g2]; exact a6, by rw [g8, g2]; exact a7, by rw [g9, g2]; exact a8, by rw [ga, g2]; exact a9, by rw [gb, g2]; exact a10, fun t ht => ?_, fun t ht hn u hu => ?_, fun j hj => ?_⟩
  · have q := a11 t ht
    unfold ye_rk at q ⊢
    rw [e5 t ht, g2, er t 0 ht (by decide), er t 1 ht (by decide), er t 2 ht (by decide), er t 3 ht (by decide), er t 4 ht (by decide), er t 5 ht (by decide), er t 6 ht (by decide), er t 7 ht (by decide), er t 8 ht (by decide), er t 9 ht (by decide), er t 10 ht (by decide)]
    exact q
  · rw [er t u ht hu]; exact a12 t ht (by rw [e0] at hn; exact hn) u hu
  · rw [g2] at hj
    have q := a13 j hj
    obtain ⟨b1, b2, b3⟩ := ea j (by omega)
    rw [b1, b2, b3, e0]; exact q
theorem ye_f_b {j : Nat} (h1 : 222 ≤ j) (h2 : j < 232) : ye_f j < 15 ∧ (ye_f j < 3 ∨ 7 ≤ ye_f j) := by
  obtain ⟨k, rfl⟩ : ∃ k, j = 222 + k := ⟨j - 222, by omega⟩
  exact (by decide : ∀ k, k < 10 → ye_f (222 + k) < 15 ∧ (ye_f (222 + k) < 3 ∨ 7 ≤ ye_f (222 + k))) k (by omega)
theorem yw_V.cg (h : yw_V M w Y T) (q : yw_q M M' w Y Y') (e : ye_eq T T') : yw_V M' w Y' T' := by
  obtain ⟨h1, h2, h3⟩ := h
  obtain ⟨q1, q2, q3⟩ := q
  obtain ⟨eg, ea, er⟩ := e
  refine ⟨fun j j1 j2 => ?_, fun j hj hjm => ?_, fun t u ht hu => ?_⟩
  · have hf := ye_f_b j1 j2
    rw [q1 _ hf.1 hf.2, eg j j1 j2]; exact h1 j j1 j2
  · rw [eg 222 (by decide) (by decide)] at hjm
    obtain ⟨c1, c2, c3⟩ := h2 j hj hjm
    obtain ⟨b1, b2, b3⟩ := ea j hj
    exact ⟨(q2 0 (by decide) j hj).trans (c1.trans b1.symm), (q2 1 (by decide) j hj).trans (c2.trans b2.symm), (q2 2 (by decide) j hj).trans (c3.trans b3.symm)⟩
  · exact (q3 t u ht hu).trans ((h3 t u ht hu).trans (er t u ht hu).symm)
theorem ye_S.eq (eH : ∀ j, j < 88 ∨ (184 ≤ j ∧ j < 356) → H' (o' + j) = H (o + j)) : ye_eq (ye_S H o) (ye_S H' o') := ⟨fun j j1 j2 => eH j (by omega), fun j hj => ⟨eH (320 + 3 * j) (by omega), eH (321 + 3 * j) (by omega), eH (322 + 3 * j) (by omega)⟩, fun t u ht hu => eH (232 + 11 * t + u) (by omega)⟩
theorem yd_ok.cg (h : yd_ok H) (e0 : H' 0 = H 0) (e : ∀ j, j < 36 → H' (184 + j) = H (184 + j)) : yd_ok H' := fun j hj => by
  have k := h j hj
  have e1 := e (3 * j) (by omega)
  have e2 := e (1 + 3 * j) (by omega)
  have e3 := e (2 + 3 * j) (by omega)
  rw [show 184 + (1 + 3 * j) = 185 + 3 * j by omega] at e2
  rw [show 184 + (2 + 3 * j) = 186 + 3 * j by omega] at e3
  rw [e0, e1, e2, e3]; exact k
theorem yw_E.cg (h : yw_E M H o w Y) (q : yw_q M M' w Y Y') (eH : ∀ j, j < 88 ∨ (184 ≤ j ∧ j < 356) → H' (o' + j) = H (o + j)) : yw_E M' H' o' w Y' := by
  obtain ⟨h1, h2, h3⟩ := h
  have e221 := eH 221 (by omega)
  refine ⟨((q.1 0 (by decide) (by decide)).trans h1).trans e221.symm, by rw [e221]; exact h2, fun c => ?_⟩
  rw [e221] at c
  obtain ⟨a, b⟩ := h3 c
  exact ⟨a.cg q (ye_S.eq eH), b.cg (eH 0 (by omega)) (fun t ht => eH (5 + 9 * t) (by omega)) (ye_S.eq eH)⟩
theorem yw_F.cg (h : yw_F M H o w Y) (q : yw_q M M' w Y Y') (eH : ∀ j, j < 88 ∨ (184 ≤ j ∧ j < 356) → H' (o' + j) = H (o + j)) : yw_F M' H' o' w Y' := ⟨h.1.cg q eH, h.2.cg (eH 0 (by omega)) (fun j hj => eH (184 + j) (by omega))⟩
theorem yw_q.of (e : ∀ v, v < 13 → M'.1 (w (Y + v)) = M.1 (w (Y + v))) : yw_q M M' w Y Y := ⟨fun f _ _ => congrFun (e 0 (by decide)) f, fun v hv j _ => congrFun (e (1 + v) (by omega)) j, fun t u ht _ => by rw [Nat.add_assoc]; exact congrFun (e (5 + t) (by omega)) u⟩
theorem yw_gv (gA : lq_WA G w) (hY : Y ∈ yw_Y) {v : Nat} (hv : v < 13) : ∃ t n, G (w (Y + v)) = (t, n) ∧ (t = 1010 ∨ t = 42100 ∨ t = 43100 ∨ t = 44100 ∨ t = 45104 ∨ t = 46100) := by
  obtain ⟨g0, g1, g2, g3, g4, g5⟩ := gA Y hY
  by_cases c : v < 5
  · rcases (by omega : v = 0 ∨ v = 1 ∨ v = 2 ∨ v = 3 ∨ v = 4) with e | e | e | e | e <;> subst e
    · exact ⟨_, _, g0, Or.inl rfl⟩
    · exact ⟨_, _, g1, Or.inr (Or.inl rfl)⟩
    · exact ⟨_, _, g2, Or.inr (Or.inr (Or.inl rfl))⟩
    · exact ⟨_, _, g3, Or.inr (Or.inr (Or.inr (Or.inl rfl)))⟩
    · exact ⟨_, _, g4, Or.inr (Or.inr (Or.inr (Or.inr (Or.inl rfl))))⟩
  · have q := g5 (v - 5) (by omega)
    rw [show Y + 5 + (v - 5) = Y + v by omega] at q
    exact ⟨_, _, q, Or.inr (Or.inr (Or.inr (Or.inr (Or.inr rfl))))⟩
theorem lq_WB.cg (h : lq_WB M w) (r : ∀ Y, Y ∈ yw_Y → ∀ k, 3 ≤ k → k < 7 → M'.2.2 (w Y) k = M.2.2 (w Y) k) (r4 : ∀ Y, Y ∈ yw_Y → ∀ t, t < 8 → M'.2.2 (w (Y + 4)) t = M.2.2 (w (Y + 4)) t) (r7 : ∀ i, i = 29 ∨ i = 246 ∨ i = 291 → M'.2.2 (w i) 3 = M.2.2 (w i) 3) : lq_WB M' w := ⟨fun Y hY => by
  obtain ⟨b1, b2, b3, b4, b5⟩ := h.1 Y hY
  exact ⟨(r Y hY 3 (by decide) (by decide)).trans b1, (r Y hY 4 (by decide) (by decide)).trans b2, (r Y hY 5 (by decide) (by decide)).trans b3, (r Y hY 6 (by decide) (by decide)).trans b4, fun t ht => (r4 Y hY t ht).trans (b5 t ht)⟩, (r7 29 (by omega)).trans h.2.1, fun k hk => (r7 _ (by unfold lq_sk; split <;> omega)).trans (h.2.2 k hk)⟩
theorem lq_W.cg (h : lq_W G M m s kp kc w) (b : lq_WB M' w) (e32 : M'.1 m 32 = M.1 m 32) (e : ∀ Y, Y ∈ yw_Y → ∀ v, v < 13 → M'.1 (w (Y + v)) = M.1 (w (Y + v))) (es : ∀ j, j < 88 ∨ (184 ≤ j ∧ j < 356) → M'.1 s j = M.1 s j) (ek : M'.1 kp = M.1 kp) (ec : M'.1 kc = M.1 kc) : lq_W G M' m s kp kc w := ⟨h.1, b, e32.trans h.2.2.1, h.2.2.2.1.cg (yw_q.of (e 61 (by decide))) (fun j hj => by rw [Nat.zero_add]; exact es j hj), fun k hk h0 => by
  rw [ec] at h0; rw [ek]
  exact (h.2.2.2.2 k hk h0).cg (yw_q.of (e _ (lq_yi_in k).1)) (fun _ _ => rfl)⟩
/-- cells and references of YEARS by a frame that leaves them -/
theorem lq_WB.fr {W : List (Nat × Nat × Nat)} (hB : lq_WB M w) (gA : lq_WA G w) (hA : lq_A G w) (f : ab_frm W G M M') (cW : lq_Wu W) : lq_WB M' w ∧ ∀ Y, Y ∈ yw_Y → ∀ v, v < 13 → M'.1 (w (Y + v)) = M.1 (w (Y + v)) := by
  have fr : ∀ {a t n : Nat} (k : Nat), G a = (t, n) → (∀ q ∈ W, q.1 ≠ t) → M'.1 a k = M.1 a k ∧ M'.2.2 a k = M.2.2 a k := fun k g hh => f _ k (by rw [g]; rintro ⟨r, hr, e1, e2, e3⟩; exact hh r hr e1)
  have f7 : ∀ i, G (w i) = (1007, 0) → M'.2.2 (w i) 3 = M.2.2 (w i) 3 := fun i g => (f _ 3 (by rw [g]; rintro ⟨r, hr, e1, e2, e3⟩; have := (cW r hr).2.2.2.2.2.2; omega)).2
  refine ⟨hB.cg (fun Y hY k _ _ => (fr k (gA Y hY).1 (fun q hq => (cW q hq).1)).2) (fun Y hY t _ => (fr t (gA Y hY).2.2.2.2.1 (fun q hq => (cW q hq).2.2.2.2.1)).2) (fun i hi => f7 i (by rcases hi with z | z | z <;> subst z <;> first | exact hA.2.2.1 | exact hA.2.2.2.2.1 | exact hA.2.2.2.2.2.1)), fun Y hY v hv => funext fun k => ?_⟩
  obtain ⟨t, n, g, ht⟩ := yw_gv gA hY hv
  refine (fr k g (fun q hq => ?_)).1
  have c := cW q hq
  omega
theorem lq_W.go {W : List (Nat × Nat × Nat)} (h : lq_W G M m s kp kc w) (hA : lq_A G w) (gm : G m = (1012, 0)) (gs : G s = (51100, 537)) (gk : G kp = (70100, 1076)) (gc : G kc = (48102, 2)) (f : ab_frm W G M M') (cW : lq_Ww W) : lq_W G M' m s kp kc w := by
  obtain ⟨hB, hv⟩ := h.2.1.fr h.1 hA f (fun q hq => (cW q hq).1)
  have fr : ∀ {a t n : Nat} (k : Nat), G a = (t, n) → (∀ q ∈ W, q.1 ≠ t) → M'.1 a k = M.1 a k ∧ M'.2.2 a k = M.2.2 a k := fun k g hh => f _ k (by rw [g]; rintro ⟨r, hr, e1, e2, e3⟩; exact hh r hr e1)
  exact h.cg hB (f m 32 (by rw [gm]; rintro ⟨r, hr, e1, e2, e3⟩; have := (cW r hr).2.2.2.2; omega)).1 hv (fun j hj => (f s j (by rw [gs]; rintro ⟨r, hr, e1, e2, e3⟩; have := (cW r hr).2.1; omega)).1) (funext fun k => (fr k gk (fun q hq => (cW q hq).2.2.1)).1) (funext fun k => (fr k gc (fun q hq => (cW q hq).2.2.2.1)).1)
/-- a call of the reference that tells s back -/
theorem lq_W.tr {W : List (Nat × Nat × Nat)} (h : lq_W G M m s kp kc w) (hA : lq_A G w) (f : ab_frm W G M M') (cW : lq_Wu W) (e32 : M'.1 m 32 = M.1 m 32) (es : ∀ j, j < 537 → M'.1 s j = M.1 s j) (ek : M'.1 kp = M.1 kp) (ec : M'.1 kc = M.1 kc) : lq_W G M' m s kp kc w := by
  obtain ⟨hB, hv⟩ := h.2.1.fr h.1 hA f cW
  exact h.cg hB e32 hv (fun j hj => es j (by omega)) ek ec
theorem yd_ok.zz (h : yd_ok H) : yd_ok (fun j => H (0 + j)) := by
  have e : (fun j => H (0 + j)) = H := funext fun j => by rw [Nat.zero_add]
  rw [e]; exact h
theorem yd_ok.zy (h : yd_ok (fun j => H (0 + j))) : yd_ok H := by
  have e : (fun j => H (0 + j)) = H := funext fun j => by rw [Nat.zero_add]
  rw [e] at h; exact h
/-- a call of the reference that tells CONTRACTS anew -/
theorem lq_W.dl {W : List (Nat × Nat × Nat)} (h : lq_W G M m s kp kc w) (hA : lq_A G w) (f : ab_frm W G M M') (cW : lq_Wu W) (e32 : M'.1 m 32 = M.1 m 32) (es : ∀ j, j < 88 ∨ (221 ≤ j ∧ j < 356) → M'.1 s j = M.1 s j) (ek : M'.1 kp = M.1 kp) (ec : M'.1 kc = M.1 kc) (hd : yd_ok (M'.1 s)) : lq_W G M' m s kp kc w := by
  obtain ⟨gA, gB, m32, ⟨⟨h1, h2, h3⟩, -⟩, hk⟩ := h
  obtain ⟨hB, hv⟩ := gB.fr gA hA f cW
  have e221 : M'.1 s (0 + 221) = M.1 s (0 + 221) := es 221 (by omega)
  have he : ye_eq (ye_S (M.1 s) 0) (ye_S (M'.1 s) 0) := ⟨fun j j1 j2 => es _ (by omega), fun j hj => ⟨es _ (by omega), es _ (by omega), es _ (by omega)⟩, fun t u ht hu => es _ (by omega)⟩
  refine ⟨gA, hB, e32.trans m32, ⟨⟨((congrFun (hv 61 (by decide) 0 (by decide)) 0).trans h1).trans e221.symm, by rw [e221]; exact h2, fun c => ?_⟩, hd.zz⟩, fun k hk2 h0 => ?_⟩
  · rw [e221] at c
    obtain ⟨a, b⟩ := h3 c
    exact ⟨a.cg (yw_q.of (hv 61 (by decide))) he, b.cg (es _ (by omega)) (fun t ht => es _ (by omega)) he⟩
  · rw [ec] at h0; rw [ek]
    exact (hk k hk2 h0).cg (yw_q.of (hv _ (lq_yi_in k).1)) (fun _ _ => rfl)
theorem lq_W.mv (h : lq_W G M m s kp kc w) (e1 : M'.1 = M.1) (e2 : M'.2.2 = M.2.2) : lq_W G M' m s kp kc w := h.cg (h.2.1.cg (fun _ _ _ _ _ => by rw [e2]) (fun _ _ _ _ => by rw [e2]) (fun _ _ => by rw [e2])) (by rw [e1]) (fun _ _ _ _ => by rw [e1]) (fun _ _ => by rw [e1]) (by rw [e1]) (by rw [e1])
/-- all that a MONTH asks of s -/
theorem ye_H.ofs (h : rv_r6 (M.1 s) 0) (hd : yd_ok (M.1 s)) : ye_H2 (M.1 s) := by
  obtain ⟨⟨h0, h1, h2, h3, hT, hw⟩, hB, -⟩ := h
  have tv : ∀ j, 4 ≤ j → j < 76 → 0 ≤ M.1 s j ∧ M.1 s j ≤ 999 ∧ (((j - 4) / 9 : Nat) < M.1 s 0 ∨ M.1 s j = 0) := fun j j1 j2 => by
    have q := hT ((j - 4) / 9) ((j - 4) % 9) (by omega) (by omega)
    rw [Nat.zero_add, show 4 + 9 * ((j - 4) / 9) + (j - 4) % 9 = j by omega] at q
    exact q
  refine ⟨⟨h0, by rw [Nat.zero_add] at h1; exact h1, by rw [Nat.zero_add] at h2; exact h2, by rw [Nat.zero_add] at h3; exact h3, fun j j1 j2 => ⟨(tv j j1 j2).1, (tv j j1 j2).2.1⟩, fun j hj => by have q := hw j hj; rw [Nat.zero_add] at q; exact q, fun t j ht hj => by have q := hB t j ht hj; rw [Nat.zero_add] at q; exact ⟨q.1, q.2.1⟩, hd⟩, fun t ht hn => ?_⟩
  have q := hT t 3 ht (by decide)
  rw [Nat.zero_add, show 4 + 9 * t + 3 = 7 + 9 * t by omega] at q
  omega
end YN
end
section
/-! ===== YEARS through plain, image, restore, contracts, take, begin, on ===== -/
/-- between plain of the class and of the reference -/
def lq_Wq (G : mj_G) (M : mj_M) (m s kp kc : Nat) (w : Nat → Nat) (y : rv_Om) : Prop := lq_WA G w ∧ lq_WB M w ∧ M.1 m 32 = -1 ∧ (∀ k, k < 2 → M.1 kc k ≠ 0 → yw_F M (M.1 kp) (538 * k) w (lq_yi k)) ∧ (∀ e, y = .inl e → yw_F M (M.1 s) 0 w 61) ∧ (∀ e, y = .inr e → M.1 (w 61) 0 = 0)
/-- image, restore of the class as far as YEARS go -/
def lq_yiy (G : mj_G) (M M' : mj_M) (kc : Nat) (w : Nat → Nat) (z1 : Int) : Prop := (¬ (0 ≤ z1 ∧ z1 ≤ 1) → M' = M) ∧ ∀ k : Nat, k < 2 → z1 = (k : Int) → ∃ M1 M2, ye_al G M M1 ∧ yk_cp w (lq_yi k) 61 M1 M2 ∧ M' = mj_p0 M2 kc k 1
def lq_yry (G : mj_G) (M M' : mj_M) (kc ud : Nat) (w : Nat → Nat) (z1 : Int) : Prop := ((∀ k : Nat, k < 2 → z1 = (k : Int) → M.1 kc k = 0) → M' = M) ∧ ∀ k : Nat, k < 2 → z1 = (k : Int) → M.1 kc k ≠ 0 → ∃ M1 M2, ye_al G M M1 ∧ yk_cp w 61 (lq_yi k) M1 M2 ∧ M' = mj_p0 M2 ud 3 0
def lq_Wi (G : mj_G) (M : mj_M) (m s kp kc : Nat) (w : Nat → Nat) (z1 : Int) : Prop := lq_WA G w ∧ lq_WB M w ∧ M.1 m 32 = -1 ∧ yw_F M (M.1 s) 0 w 61 ∧ (∀ k : Nat, k < 2 → z1 ≠ (k : Int) → M.1 kc k ≠ 0 → yw_F M (M.1 kp) (538 * k) w (lq_yi k)) ∧ (∀ k : Nat, k < 2 → z1 = (k : Int) → yw_F M (M.1 s) 0 w (lq_yi k))
def lq_Wr (G : mj_G) (M : mj_M) (m s kp kc : Nat) (w : Nat → Nat) (z1 : Int) : Prop := lq_WA G w ∧ lq_WB M w ∧ M.1 m 32 = -1 ∧ (∀ k, k < 2 → M.1 kc k ≠ 0 → yw_F M (M.1 kp) (538 * k) w (lq_yi k)) ∧ ((∀ k : Nat, k < 2 → z1 = (k : Int) → M.1 kc k = 0) → yw_F M (M.1 s) 0 w 61) ∧ (∀ k : Nat, k < 2 → z1 = (k : Int) → M.1 kc k ≠ 0 → yw_F M (M.1 kp) (538 * k) w 61)
/-- between begin, on of the class and of the reference -/
def lq_Wo (G : mj_G) (M : mj_M) (m s kp kc : Nat) (w : Nat → Nat) (T : ye_T) : Prop := lq_WA G w ∧ lq_WB M w ∧ M.1 m 32 = -1 ∧ (∀ k, k < 2 → M.1 kc k ≠ 0 → yw_F M (M.1 kp) (538 * k) w (lq_yi k)) ∧ yd_ok (M.1 s) ∧ M.1 (w 61) 0 = 1 ∧ yw_V M w 61 T ∧ ye_okT (M.1 s) T
section YO
variable {G : mj_G} {M M' M1 M2 : mj_M} {x s m kp kc tp ud dn ik r : Nat} {w : Nat → Nat} {z1 z : Int} {H H' R P : Nat → Int} {o o' Y Y' : Nat} {T T' : ye_T} {W : List (Nat × Nat × Nat)}
set_option maxRecDepth 100000 in
theorem lq_W.pl1 {y : rv_Om} (h : lq_W G M m s kp kc w) (hA : lq_A G w) (gx : G x = (1011, 0)) (gm : G m = (1012, 0)) (gtp : G tp = (1008, 0)) (gs : G s = (51100, 537)) (gk : G kp = (70100, 1076)) (gc : G kc = (48102, 2)) (py : lq_py G M M' x tp w y) : lq_Wq G M' m s kp kc w y := by
  obtain ⟨p, q, oa, dl, fa, sa, ca, se, ye, ud, hN, goa, hX, hF, hO⟩ := py
  obtain ⟨⟨-, g74, g29, gse, gye, gud, gdl, gfa, gsa, gca, d0, d1, d2⟩, x_x0, x_x1, x_x2, x_x5, x_sp0, x_nw0, x_nw1, x_nw2, x_nw3⟩ := id hX
  obtain ⟨gq, gqn, -, -, gqw, gqt, gqb⟩ := hA.2.1 q hN.qin.1
  obtain ⟨gA, gB, m32, hn, hk⟩ := id h
  rcases y with e | ⟨PL, WA, OA, TO, BI, nm, r⟩
  · obtain ⟨⟨f2, fl, f1⟩, -⟩ := hF e rfl
    have tg : ∀ {a t u : Nat}, G a = (t, u) → t ≠ 1004 → t ≠ 26100 → t ≠ 28100 → t ≠ 29100 → t ≠ 30100 → t ≠ 1011 → t ≠ 1008 → M'.1 a = M.1 a := fun ga n1 n4 n6 n7 n8 n9 n10 => f1 _ (hn_ne ga gx n9) (hn_ne ga gtp n10) (hn_ne ga gq n1) (hn_ne ga gqw n7) (hn_ne ga goa n8) (fun t ht => hn_ne ga (gqt t ht) n4) (fun t ht => hn_ne ga (gqb t ht) n6)
    have rf : ∀ {a t u : Nat} (j : Nat), G a = (t, u) → t ≠ 1008 → M'.2.2 a j = M.2.2 a j := fun j g h1 => f2 _ j (fun e => hn_ne g gtp h1 e.1)
    obtain ⟨v1, v2, v3, v4, v5⟩ := h.cg (M' := M') (gB.cg (fun Y hY k _ _ => rf k (gA Y hY).1 (by decide)) (fun Y hY t _ => rf t (gA Y hY).2.2.2.2.1 (by decide)) (fun i hi => rf 3 (show G (w i) = (1007, 0) by rcases hi with z | z | z <;> subst z <;> first | exact g29 | exact hA.2.2.2.2.1 | exact hA.2.2.2.2.2.1) (by decide))) (congrFun (tg gm (by decide) (by decide) (by decide) (by decide) (by decide) (by decide) (by decide)) 32) (fun Y hY v hv => by
      obtain ⟨t, n, g, ht⟩ := yw_gv gA hY hv
      exact tg g (by omega) (by omega) (by omega) (by omega) (by omega) (by omega) (by omega)) (fun j _ => congrFun (tg gs (by decide) (by decide) (by decide) (by decide) (by decide) (by decide) (by decide)) j) (tg gk (by decide) (by decide) (by decide) (by decide) (by decide) (by decide) (by decide)) (tg gc (by decide) (by decide) (by decide) (by decide) (by decide) (by decide) (by decide))
    exact ⟨v1, v2, v3, v5, fun _ _ => v4, fun _ e => by cases e⟩
  · obtain ⟨⟨o1, o2, o3, o4, o5, o6, o7, o8, o9, fo⟩, u1, u2, -⟩ := hO _ _ _ _ _ _ _ rfl
    have eye : ye = w 61 := Option.some.inj (x_nw3.symm.trans gB.2.1)
    have rf : ∀ {a t u : Nat} (j : Nat), G a = (t, u) → t ≠ 1008 → (t ≠ 1007 ∨ j ≠ 0) → M'.2.2 a j = M.2.2 a j := fun j g h1 h2 => o8 _ j (fun e => hn_ne g gtp h1 e.1) (fun e => h2.elim (fun z => hn_ne g g29 z e.1) (fun z => z e.2)) (fun e => h2.elim (fun z => hn_ne g g74 z e.1) (fun z => z e.2))
    have tg : ∀ {a t u : Nat}, G a = (t, u) → t ≠ 1004 → t ≠ 26100 → t ≠ 28100 → t ≠ 29100 → t ≠ 30100 → t ≠ 1011 → t ≠ 1008 → t ≠ 1006 → t ≠ 1009 → t ≠ 1002 → t ≠ 16100 → t ≠ 17100 → t ≠ 18100 → a ≠ ye → M'.1 a = M.1 a := fun ga n1 n4 n6 n7 n8 n9 n10 m5 m7 m1 m2 m3 m4 m6 => fo _ (hn_ne ga gx n9) (hn_ne ga gtp n10) (hn_ne ga gq n1) (hn_ne ga gqw n7) (hn_ne ga goa n8) (fun t ht => hn_ne ga (gqt t ht) n4) (fun t ht => hn_ne ga (gqb t ht) n6) (hn_ne ga gdl m1) (hn_ne ga gfa m2) (hn_ne ga gsa m3) (hn_ne ga gca m4) (hn_ne ga gse m5) m6 (hn_ne ga gud m7)
    have im : ∀ k v, v < 13 → M'.1 (w (lq_yi k + v)) = M.1 (w (lq_yi k + v)) := fun k v hv => by
      obtain ⟨t, n, g, ht⟩ := yw_gv gA (lq_yi_in k).1 hv
      exact tg g (by omega) (by omega) (by omega) (by omega) (by omega) (by omega) (by omega) (by omega) (by omega) (by omega) (by omega) (by omega) (by omega) (by rw [eye]; exact yw_w (j := 0) hA (lq_yi_in k).1 (by decide) hv (by decide) (Or.inl (lq_yi_in k).2))
    have ek : M'.1 kp = M.1 kp := tg gk (by decide) (by decide) (by decide) (by decide) (by decide) (by decide) (by decide) (by decide) (by decide) (by decide) (by decide) (by decide) (by decide) (hn_ne gk gye (by decide))
    have ec : M'.1 kc = M.1 kc := tg gc (by decide) (by decide) (by decide) (by decide) (by decide) (by decide) (by decide) (by decide) (by decide) (by decide) (by decide) (by decide) (by decide) (hn_ne gc gye (by decide))
    refine ⟨gA, gB.cg (fun Y hY k _ _ => rf k (gA Y hY).1 (by decide) (Or.inl (by decide))) (fun Y hY t _ => rf t (gA Y hY).2.2.2.2.1 (by decide) (Or.inl (by decide))) (fun i hi => rf 3 (show G (w i) = (1007, 0) by rcases hi with z | z | z <;> subst z <;> first | exact g29 | exact hA.2.2.2.2.1 | exact hA.2.2.2.2.2.1) (by decide) (Or.inr (by decide))), (congrFun (tg gm (by decide) (by decide) (by decide) (by decide) (by decide) (by decide) (by decide) (by decide) (by decide) (by decide) (by decide) (by decide) (by decide) (hn_ne gm gye (by decide))) 32).trans m32, fun k hk2 h0 => ?_, (fun _ e => by cases e), fun _ _ => by rw [← eye]; exact u2⟩
    rw [ec] at h0; rw [ek]
    exact (hk k hk2 h0).cg (yw_q.of (im k)) (fun _ _ => rfl)
theorem yd_ok.of0 (h0 : 0 ≤ H 0) (h : ∀ j, j < 36 → H (184 + j) = 0) : yd_ok H := fun j hj => by
  have e1 := h (3 * j) (by omega)
  have e2 := h (1 + 3 * j) (by omega)
  have e3 := h (2 + 3 * j) (by omega)
  rw [show 184 + (1 + 3 * j) = 185 + 3 * j by omega] at e2
  rw [show 184 + (2 + 3 * j) = 186 + 3 * j by omega] at e3
  rw [e1, e2, e3]
  exact ⟨Int.le_refl 0, Or.inl h0, Int.le_refl 0, h0, fun q => absurd q (Int.lt_irrefl 0), Int.le_refl 0, by decide⟩
theorem lq_Wq.pl2 {y : rv_Om} (h : lq_Wq G M m s kp kc w y) (hA : lq_A G w) (f : ab_frm W G M M') (cW : lq_Wu W) (e32 : M'.1 m 32 = M.1 m 32) (ek : M'.1 kp = M.1 kp) (ec : M'.1 kc = M.1 kc) (o1 : ∀ e, y = .inl e → M'.1 s = M.1 s) (o2 : ∀ e, y = .inr e → ∀ j, 184 ≤ j → j < 537 → M'.1 s j = 0) (b0 : 0 ≤ M'.1 s 0) : lq_W G M' m s kp kc w := by
  obtain ⟨gA, gB, m32, hk, h1, h2⟩ := h
  obtain ⟨hB, hv⟩ := gB.fr gA hA f cW
  refine ⟨gA, hB, e32.trans m32, ?_, fun k hk2 h0 => ?_⟩
  · rcases y with e | e
    · exact (h1 e rfl).cg (yw_q.of (hv 61 (by decide))) (fun j _ => by rw [o1 e rfl])
    · have z := o2 e rfl
      have e221 : M'.1 s (0 + 221) = 0 := z 221 (by decide) (by decide)
      refine ⟨⟨((congrFun (hv 61 (by decide) 0 (by decide)) 0).trans (h2 e rfl)).trans e221.symm, Or.inl e221, fun c => ?_⟩, (yd_ok.of0 b0 (fun j hj => z _ (by omega) (by omega))).zz⟩
      rw [e221] at c; exact absurd c (by decide)
  · rw [ec] at h0; rw [ek]
    exact (hk k hk2 h0).cg (yw_q.of (hv _ (lq_yi_in k).1)) (fun _ _ => rfl)
theorem ye_al.WB (h : ye_al G M M') (hB : lq_WB M w) (gA : lq_WA G w) (hA : lq_A G w) : lq_WB M' w := hB.cg (fun Y hY k _ _ => congrFun ((h _).2 (Or.inl (by rw [(gA Y hY).1]; exact Or.inl rfl))) k) (fun Y hY t _ => congrFun ((h _).2 (Or.inl (by rw [(gA Y hY).2.2.2.2.1]; exact Or.inr (Or.inr (Or.inr (Or.inr (Or.inl rfl))))))) t) (fun i hi => congrFun ((h _).2 (Or.inr (Or.inl (by rcases hi with z | z | z <;> subst z <;> first | rw [hA.2.2.1] | rw [hA.2.2.2.2.1] | rw [hA.2.2.2.2.2.1])))) 3)
theorem ye_al.v (h : ye_al G M M') (gA : lq_WA G w) (hY : Y ∈ yw_Y) {v : Nat} (hv : v < 13) : M'.1 (w (Y + v)) = M.1 (w (Y + v)) := (h _).1 (by
  obtain ⟨t, n, g, ht⟩ := yw_gv gA hY hv
  rw [g]; unfold ye_tg; show t = 1010 ∨ _; omega)
/-- a cell that is none of the YEAR at Y -/
theorem yw_nt (gA : lq_WA G w) (hY : Y ∈ yw_Y) {a t n : Nat} (g : G a = (t, n)) (ht : t ≠ 1010 ∧ t ≠ 42100 ∧ t ≠ 43100 ∧ t ≠ 44100 ∧ t ≠ 45104 ∧ t ≠ 46100) : yw_ne w Y a := fun v hv e => by
  obtain ⟨t', n', g', h'⟩ := yw_gv gA hY hv
  rw [e, g'] at g
  have := congrArg Prod.fst g
  dsimp only at this
  omega
theorem yw_nY (hA : lq_A G w) (hY : Y ∈ yw_Y) (hX : Y' ∈ yw_Y) (n : Y ≠ Y') {v : Nat} (hv : v < 13) : yw_ne w Y' (w (Y + v)) := fun _ hv' => yw_w hA hY hX hv hv' (Or.inl n)
theorem yk_cp.WB (h : yk_cp w Y Y' M M') (hB : lq_WB M w) : lq_WB M' w := hB.cg (fun _ _ _ _ _ => by rw [h.1]) (fun _ _ _ _ => by rw [h.1]) (fun _ _ => by rw [h.1])
theorem yk_cp.q (h : yk_cp w Y Y' M M') : yw_q M M' w Y' Y := ⟨h.2.2.1, h.2.2.2.1, h.2.2.2.2⟩
theorem yw_q.tr (h : yw_q M M1 w Y Y') {Y2 : Nat} (h2 : yw_q M1 M' w Y' Y2) : yw_q M M' w Y Y2 := ⟨fun f a b => (h2.1 f a b).trans (h.1 f a b), fun v a j b => (h2.2.1 v a j b).trans (h.2.1 v a j b), fun t u a b => (h2.2.2 t u a b).trans (h.2.2 t u a b)⟩
theorem lq_W.im1 (h : lq_W G M m s kp kc w) (hA : lq_A G w) (gc : G kc = (48102, 2)) (es : M'.1 s = M.1 s) (ek : M'.1 kp = M.1 kp) (e32 : M'.1 m 32 = M.1 m 32) (iy : lq_yiy G M M' kc w z1) : lq_Wi G M' m s kp kc w z1 := by
  obtain ⟨gA, gB, m32, hn, hk⟩ := h
  obtain ⟨i0, i1⟩ := iy
  by_cases hz : 0 ≤ z1 ∧ z1 ≤ 1
  · have hk0 : z1.toNat < 2 := by omega
    have e0 : z1 = (z1.toNat : Int) := by omega
    generalize z1.toNat = k0 at hk0 e0
    obtain ⟨M1, M2, al, hc, e⟩ := i1 k0 hk0 e0
    have nk : ∀ Y, Y ∈ yw_Y → ∀ v, v < 13 → M'.1 (w (Y + v)) = M2.1 (w (Y + v)) := fun Y hY v hv => by
      rw [e]; exact wz_c (fun q => yw_nt gA hY gc (by decide) v hv q.symm)
    have keep : ∀ Y, Y ∈ yw_Y → Y ≠ lq_yi k0 → ∀ v, v < 13 → M'.1 (w (Y + v)) = M.1 (w (Y + v)) := fun Y hY hne v hv => (nk Y hY v hv).trans ((hc.2.1 _ (yw_nY hA hY (lq_yi_in k0).1 hne hv)).trans (al.v gA hY hv))
    refine ⟨gA, ?_, e32.trans m32, hn.cg (yw_q.of (keep 61 (by decide) (lq_yi_in k0).2.symm)) (fun j _ => by rw [es]), fun k hk2 hz2 h0 => ?_, fun k hk2 hz2 => ?_⟩
    · have b := hc.WB (al.WB gB gA hA)
      rw [e]; exact b
    · have hne : k ≠ k0 := fun q => hz2 (by rw [q]; exact e0)
      have h0' : M.1 kc k ≠ 0 := by
        rw [e, hn_n (Or.inr hne), hc.2.1 kc (yw_nt gA (lq_yi_in k0).1 gc (by decide)), (al kc).1 (by rw [gc]; exact Or.inr (Or.inr (Or.inr (Or.inr (Or.inr (Or.inr rfl))))))] at h0
        exact h0
      rw [ek]
      exact (hk k hk2 h0').cg (yw_q.of (keep _ (lq_yi_in k).1 (by unfold lq_yi; split <;> split <;> omega))) (fun _ _ => rfl)
    · obtain rfl : k = k0 := by omega
      exact hn.cg ((yw_q.of (fun v hv => al.v gA (by decide) hv)).tr (hc.q.tr (yw_q.of (nk _ (lq_yi_in k).1)))) (fun j _ => by rw [es])
  · have e := i0 hz
    subst e
    exact ⟨gA, gB, m32, hn, fun k hk2 _ h0 => hk k hk2 h0, fun k hk2 e => absurd ⟨by omega, by omega⟩ hz⟩
theorem lq_Wi.im2 (h : lq_Wi G M m s kp kc w z1) (hA : lq_A G w) (f : ab_frm W G M M') (cW : lq_Wu W) (e32 : M'.1 m 32 = M.1 m 32) (es : M'.1 s = M.1 s) (ec : M'.1 kc = M.1 kc) (o : (¬ (0 ≤ z1 ∧ z1 ≤ 1) ∧ M'.1 kp = M.1 kp) ∨ (∃ k : Nat, k ≤ 1 ∧ z1 = (k : Int) ∧ (∀ p, p < 537 → M'.1 kp (538 * k + p) = M.1 s p) ∧ (∀ q, q < 538 * k ∨ 538 * k + 538 ≤ q → M'.1 kp q = M.1 kp q))) : lq_W G M' m s kp kc w := by
  obtain ⟨gA, gB, m32, hn, h1, h2⟩ := h
  obtain ⟨hB, hv⟩ := gB.fr gA hA f cW
  refine ⟨gA, hB, e32.trans m32, hn.cg (yw_q.of (hv 61 (by decide))) (fun j _ => by rw [es]), fun k hk2 h0 => ?_⟩
  rw [ec] at h0
  have ev := yw_q.of (M := M) (M' := M') (hv _ (lq_yi_in k).1)
  rcases o with ⟨o1, o2⟩ | ⟨k0, o1, o2, o3, o4⟩
  · exact (h1 k hk2 (fun e => o1 ⟨by omega, by omega⟩) h0).cg ev (fun _ _ => by rw [o2])
  · by_cases e : k = k0
    · subst e
      exact (h2 k hk2 o2).cg ev (fun j hj => by rw [Nat.zero_add]; exact o3 _ (by omega))
    · exact (h1 k hk2 (fun e2 => e (by omega)) h0).cg ev (fun j hj => o4 _ (by omega))
theorem lq_W.re1 (h : lq_W G M m s kp kc w) (hA : lq_A G w) (gud : G ud = (1009, 0)) (es : M'.1 s = M.1 s) (ek : M'.1 kp = M.1 kp) (ec : M'.1 kc = M.1 kc) (e32 : M'.1 m 32 = M.1 m 32) (ry : lq_yry G M M' kc ud w z1) : lq_Wr G M' m s kp kc w z1 := by
  obtain ⟨gA, gB, m32, hn, hk⟩ := h
  obtain ⟨i0, i1⟩ := ry
  by_cases hz : ∃ k : Nat, k < 2 ∧ z1 = (k : Int) ∧ M.1 kc k ≠ 0
  · obtain ⟨k0, hk0, e0, hc0⟩ := hz
    obtain ⟨M1, M2, al, hc, e⟩ := i1 k0 hk0 e0 hc0
    have nk : ∀ Y, Y ∈ yw_Y → ∀ v, v < 13 → M'.1 (w (Y + v)) = M2.1 (w (Y + v)) := fun Y hY v hv => by
      rw [e]; exact wz_c (fun q => yw_nt gA hY gud (by decide) v hv q.symm)
    have keep : ∀ Y, Y ∈ yw_Y → Y ≠ 61 → ∀ v, v < 13 → M'.1 (w (Y + v)) = M.1 (w (Y + v)) := fun Y hY hne v hv => (nk Y hY v hv).trans ((hc.2.1 _ (yw_nY hA hY (by decide) hne hv)).trans (al.v gA hY hv))
    refine ⟨gA, ?_, e32.trans m32, fun k hk2 h0 => ?_, fun hno => absurd (by rw [← ec]; exact hno k0 hk0 e0) hc0, fun k hk2 hz2 h0 => ?_⟩
    · have b := hc.WB (al.WB gB gA hA)
      rw [e]; exact b
    · rw [ec] at h0; rw [ek]
      exact (hk k hk2 h0).cg (yw_q.of (keep _ (lq_yi_in k).1 (lq_yi_in k).2)) (fun _ _ => rfl)
    · obtain rfl : k = k0 := by omega
      rw [ek]
      exact (hk k hk0 hc0).cg ((yw_q.of (fun v hv => al.v gA (lq_yi_in k).1 hv)).tr (hc.q.tr (yw_q.of (nk 61 (by decide))))) (fun _ _ => rfl)
  · have hno : ∀ k : Nat, k < 2 → z1 = (k : Int) → M.1 kc k = 0 := fun k hk2 e => Classical.byContradiction (fun z => hz ⟨k, hk2, e, z⟩)
    have e := i0 hno
    subst e
    exact ⟨gA, gB, m32, hk, fun _ => hn, fun k hk2 e h0 => absurd (hno k hk2 e) h0⟩
theorem lq_Wr.re2 (h : lq_Wr G M m s kp kc w z1) (hA : lq_A G w) (f : ab_frm W G M M') (cW : lq_Wu W) (e32 : M'.1 m 32 = M.1 m 32) (ek : M'.1 kp = M.1 kp) (ec : M'.1 kc = M.1 kc) (mk : ∀ k, k < 2 → M.1 kc k = M.1 ik k) (o : ((¬ (0 ≤ z1 ∧ z1 ≤ 1) ∨ M.1 ik z1.toNat = 0) ∧ M'.1 s = M.1 s) ∨ (∃ k : Nat, k ≤ 1 ∧ z1 = (k : Int) ∧ M.1 ik k ≠ 0 ∧ (∀ p, p < 537 → M'.1 s p = M.1 kp (538 * k + p)))) : lq_W G M' m s kp kc w := by
  obtain ⟨gA, gB, m32, hk, h1, h2⟩ := h
  obtain ⟨hB, hv⟩ := gB.fr gA hA f cW
  have ev := yw_q.of (M := M) (M' := M') (hv 61 (by decide))
  refine ⟨gA, hB, e32.trans m32, ?_, fun k hk2 h0 => ?_⟩
  · rcases o with ⟨oz, oe⟩ | ⟨k0, o1, o2, o3, o4⟩
    · have hno : ∀ k : Nat, k < 2 → z1 = (k : Int) → M.1 kc k = 0 := fun k hk2 e => by
        rcases oz with oz | oz
        · omega
        · rw [mk k hk2, show k = z1.toNat by omega]; exact oz
      exact (h1 hno).cg ev (fun j _ => by rw [oe])
    · have hc1 : M.1 kc k0 ≠ 0 := by rw [mk k0 (by omega)]; exact o3
      exact (h2 k0 (by omega) o2 hc1).cg ev (fun j hj => by rw [Nat.zero_add]; exact o4 _ (by omega))
  · rw [ec] at h0; rw [ek]
    exact (hk k hk2 h0).cg (yw_q.of (hv _ (lq_yi_in k).1)) (fun _ _ => rfl)
/-- CONTRACTS told, CONTRACTS taken: in order -/
theorem yd_ok.ct (h : rv_db (M.1 s 0) R) (b0 : 0 ≤ M.1 s 0) (q : rq_O s R r M M') : yd_ok (M'.1 s) := fun j hj => by
  have k := h j hj
  have e1 := q.1 (3 * j) (by omega)
  have e2 := q.1 (3 * j + 1) (by omega)
  have e3 := q.1 (3 * j + 2) (by omega)
  rw [show 184 + (3 * j + 1) = 185 + 3 * j by omega] at e2
  rw [show 184 + (3 * j + 2) = 186 + 3 * j by omega] at e3
  rw [q.2.2 0 (Or.inl (by decide)), e1, e2, e3]
  unfold rv_d3 at k
  exact ⟨by omega, by omega, by omega, by omega, fun _ => ⟨by omega, by omega, by omega⟩, by omega, by omega⟩
theorem yd_ok.tk (h6 : rv_r6 (M.1 s) 0) (hP : ∀ j, j < 12 → P j = 8 ∨ (0 ≤ P j ∧ P j < M.1 s 0)) (e0 : M'.1 s 0 = M.1 s 0) (q : rq_T s P M M') : yd_ok (M'.1 s) := fun j hj => by
  obtain ⟨t1, t2, t3⟩ := q.1 j hj
  have b0 : 0 ≤ M.1 s 0 ∧ M.1 s 0 ≤ 8 := h6.1.1
  have p := hP j hj
  have hc : 0 ≤ tk_c (M.1 s) P j ∧ tk_c (M.1 s) P j ≤ 999 := by
    unfold tk_c
    split
    · have q := h6.2.1 (P j).toNat j (by omega) hj
      rw [Nat.zero_add] at q
      exact ⟨q.1, q.2.1⟩
    · exact ⟨Int.le_refl 0, by decide⟩
  rw [e0, t1, t2, t3]
  exact ⟨by omega, by omega, Int.le_refl 0, b0.1, fun q => absurd q (Int.lt_irrefl 0), hc.1, hc.2⟩
/-- begin, on -/
theorem lq_W.on1 (h : lq_W G M m s kp kc w) (hA : lq_A G w) (gm : G m = (1012, 0)) (gs : G s = (51100, 537)) (gk : G kp = (70100, 1076)) (gc : G kc = (48102, 2)) (c : yw_o w M M') (hC : yw_C M' w 1 T) (hk : ye_okT (M.1 s) T) : lq_Wo G M' m s kp kc w T := by
  obtain ⟨gA, gB, m32, hn, hi⟩ := h
  have es := c.2 s (yw_nt gA (by decide) gs (by decide))
  have ek := c.2 kp (yw_nt gA (by decide) gk (by decide))
  have ec := c.2 kc (yw_nt gA (by decide) gc (by decide))
  refine ⟨gA, gB.cg (fun _ _ _ _ _ => by rw [c.1]) (fun _ _ _ _ => by rw [c.1]) (fun _ _ => by rw [c.1]), (congrFun (c.2 m (yw_nt gA (by decide) gm (by decide))) 32).trans m32, fun k hk2 h0 => ?_, by rw [es]; exact hn.2.zy, hC.1, hC.2, by rw [es]; exact hk⟩
  rw [ec] at h0; rw [ek]
  exact (hi k hk2 h0).cg (yw_q.of (fun v hv => c.2 _ (yw_nY hA (lq_yi_in k).1 (by decide) (lq_yi_in k).2 hv))) (fun _ _ => rfl)
theorem lq_Wo.on2 (h : lq_Wo G M m s kp kc w T) (hA : lq_A G w) (f : ab_frm W G M M') (cW : lq_Wu W) (ek : M'.1 kp = M.1 kp) (ec : M'.1 kc = M.1 kc) (q : yw_R s m 1 T M M') : lq_W G M' m s kp kc w := by
  obtain ⟨gA, gB, m32, hi, hd, h61, hV, hk⟩ := h
  obtain ⟨hB, hv⟩ := gB.fr gA hA f cW
  obtain ⟨r1, r2, r3, r4, r5, r6⟩ := q
  have he : ye_eq T (ye_S (M'.1 s) 0) := ⟨fun j j1 j2 => by show M'.1 s (0 + j) = _; rw [Nat.zero_add]; exact r3 j j1 j2, fun j hj => by
    obtain ⟨a, b, c⟩ := r4 j hj
    exact ⟨by show M'.1 s (0 + (320 + 3 * j)) = _; rw [Nat.zero_add]; exact a, by show M'.1 s (0 + (321 + 3 * j)) = _; rw [Nat.zero_add]; exact b, by show M'.1 s (0 + (322 + 3 * j)) = _; rw [Nat.zero_add]; exact c⟩, fun t u ht hu => by show M'.1 s (0 + (232 + 11 * t + u)) = _; rw [Nat.zero_add]; exact r5 t u ht hu⟩
  have e221 : M'.1 s (0 + 221) = 1 := r2
  refine ⟨gA, hB, r6.trans m32, ⟨⟨((congrFun (hv 61 (by decide) 0 (by decide)) 0).trans h61).trans e221.symm, Or.inr e221, fun _ => ⟨hV.cg (yw_q.of (hv 61 (by decide))) he, hk.cg (r1 0 (Or.inl (by decide))) (fun t ht => by show M'.1 s (0 + (5 + 9 * t)) = _; rw [Nat.zero_add]; exact r1 _ (Or.inl (by omega))) he⟩⟩, (hd.cg (r1 0 (Or.inl (by decide))) (fun j hj => r1 _ (Or.inl (by omega)))).zz⟩, fun k hk2 h0 => ?_⟩
  rw [ec] at h0; rw [ek]
  exact (hi k hk2 h0).cg (yw_q.of (hv _ (lq_yi_in k).1)) (fun _ _ => rfl)
end YO
end
section
/-! ===== worth, must, shores of the reference (laid by a program) ===== -/
/-- the bids of a TOWN taken away; worth -/
def lr_wz (H : Nat → Int) (r : Nat) : Nat → Int := fun j => if r ≤ j ∧ j < r + 12 then 0 else H j
def lr_worth (H : Nat → Int) (z1 : Int) : Int := if 0 ≤ z1 ∧ z1 < H 0 then (Int32.ofInt ((ye_y0 H).1 224) - Int32.ofInt ((ye_y0 (lr_wz H (88 + 12 * z1).toNat)).1 224)).toInt else -10001
/-- the least bid that lets a MONTH; must -/
def lr_mu (H : Nat → Int) (r o : Nat) (n : Int) : ye_T := ye_it (rv_up H r n) (fun _ => 0) (ye_fr (rv_up H r n)) (o + 1)
def lr_mf (H : Nat → Int) (k : Int) (r o : Nat) : Nat → Int → Int
  | 0, _ => -1
  | f + 1, n => if (lr_mu H r o n).2.1 o = k ∧ (lr_mu H r o n).2.2.1 o < 0 then n else lr_mf H k r o f (n + 1)
def lr_must (H : Nat → Int) (z1 z2 : Int) : Int := if (0 ≤ z1 ∧ z1 < H 0) ∧ 0 ≤ z2 ∧ z2 ≤ 11 then lr_mf H z1 (88 + 12 * z1 + z2).toNat z2.toNat 999 1 else -1
def lr_sx (z : Int) (i : Nat) : Int := (Int32.ofInt z + Int32.ofInt (i : Int)).toInt
def lr_sh (H : Nat → Int) (k : Nat) (z : Int) : Nat → Int
  | 0 => 0
  | i + 1 => (Int32.ofInt (lr_sh H k z i) + Int32.ofInt ((ye_yd H (lr_sx z i)).2.2.2.2 k 3)).toInt
theorem lr_sh_s {H : Nat → Int} {k : Nat} {z : Int} {i : Nat} : lr_sh H k z (i + 1) = (Int32.ofInt (lr_sh H k z i) + Int32.ofInt ((ye_yd H (lr_sx z i)).2.2.2.2 k 3)).toInt := rfl
def lr_shores (H : Nat → Int) (z1 z2 z3 : Int) : Int := if (0 ≤ z1 ∧ z1 < H 0) ∧ 1 ≤ z2 ∧ z2 ≤ 100 then lr_sh H z1.toNat z3 z2.toNat else -1
theorem ye_H2.bid {H H' : Nat → Int} (h : ye_H2 H) (e : ∀ j, j < 88 ∨ 184 ≤ j → H' j = H j) (hb : ∀ j, 88 ≤ j → j < 184 → 0 ≤ H' j ∧ H' j ≤ 999) : ye_H2 H' := by
  obtain ⟨⟨h0, h1, h2, h3, hT, hw, hB, hd⟩, hz⟩ := h
  have e0 := e 0 (Or.inl (by decide))
  refine ⟨⟨by rw [e0]; exact h0, by rw [e 1 (Or.inl (by decide))]; exact h1, by rw [e 2 (Or.inl (by decide))]; exact h2, by rw [e 3 (Or.inl (by decide))]; exact h3, fun j j1 j2 => by rw [e j (Or.inl (by omega))]; exact hT j j1 j2, fun j hj => by rw [e (76 + j) (Or.inl (by omega))]; exact hw j hj, fun t j ht hj => hb _ (by omega) (by omega), fun j hj => ?_⟩, fun t ht hn => by rw [e (7 + 9 * t) (Or.inl (by omega))]; rw [e0] at hn; exact hz t ht hn⟩
  have k := hd j hj
  rw [e0, e (184 + 3 * j) (Or.inr (by omega)), e (185 + 3 * j) (Or.inr (by omega)), e (186 + 3 * j) (Or.inr (by omega))]
  exact k
theorem ye_H2.b {H : Nat → Int} (h : ye_H2 H) {j : Nat} (j1 : 88 ≤ j) (j2 : j < 184) : 0 ≤ H j ∧ H j ≤ 999 := by
  have q := h.1.2.2.2.2.2.2.1 ((j - 88) / 12) ((j - 88) % 12) (by omega) (by omega)
  rw [show 88 + 12 * ((j - 88) / 12) + (j - 88) % 12 = j by omega] at q
  exact q
/-- what worth leaves; while it thinks -/
def rq_K2 (s m bf bk : Nat) (M M' : mj_M) : Prop := M'.2 = M.2 ∧ (∀ a, a ≠ s → a ≠ m → a ≠ bf → a ≠ bk → M'.1 a = M.1 a) ∧ (∀ j, j < 537 → M'.1 s j = M.1 s j) ∧ (∀ k, k ≠ 0 → k ≠ 29 → k ≠ 30 → k ≠ 31 → k ≠ 47 → M'.1 m k = M.1 m k)
theorem rq_K.t2 {s m bf bk : Nat} {M M' : mj_M} (h : rq_K s m bf M M') : rq_K2 s m bf bk M M' := ⟨h.1, fun a a1 a2 a3 _ => h.2.1 a a1 a2 a3, h.2.2.1, h.2.2.2⟩
def rq_Mr (s m bf r : Nat) (M M' : mj_M) : Prop := M'.2 = M.2 ∧ (∀ a, a ≠ s → a ≠ m → a ≠ bf → M'.1 a = M.1 a) ∧ (∀ j, j ≠ r → j < 221 ∨ (356 ≤ j ∧ j < 537) → M'.1 s j = M.1 s j) ∧ (∀ k, k ≠ 0 → k ≠ 29 → k ≠ 30 → k ≠ 31 → k ≠ 47 → M'.1 m k = M.1 m k) ∧ (∀ k, k < 135 → M'.1 bf k = M.1 s (221 + k))
theorem r_yw1 {G : mj_G} {M0 : mj_M} {m s bk r : Nat} {Q : mj_P} {k v2 : Int} (gm : G m = (1012, 0)) (gs : G s = (51100, 537)) (gb : G bk = (65100, 12)) (m6 : M0.2.2 m 6 = some s) (m46 : M0.2.2 m 46 = some bk) (k1 : 0 ≤ k) (k2 : k < 8) (hr : r = (88 + 12 * k).toNat) : ∀ (f i : Nat) (M : mj_M) (cb sb : Nat), i + f = 12 → M.2 = M0.2 → (∀ a, a ≠ s → a ≠ bk → M.1 a = M0.1 a) → (∀ j, j < 537 → M.1 s j = if r ≤ j ∧ j < r + i then 0 else M0.1 s j) → (∀ l, l < i → M.1 bk l = M0.1 s (r + l)) → (∀ M' cb sb, M'.2 = M0.2 → (∀ a, a ≠ s → a ≠ bk → M'.1 a = M0.1 a) → (∀ j, j < 537 → M'.1 s j = if r ≤ j ∧ j < r + 12 then 0 else M0.1 s j) → (∀ l, l < 12 → M'.1 bk l = M0.1 s (r + l)) → wz 39 mt_X12_worth.2.2.2.2.1 Q (mt_X12_worth.2.2.2.2.1.drop 45) [some (.inr (.inr (some m))), some (.inl k), some (.inl v2), some (.inl 12), none] [] G M' cb sb) → wz 39 mt_X12_worth.2.2.2.2.1 Q (mt_X12_worth.2.2.2.2.1.drop 21) [some (.inr (.inr (some m))), some (.inl k), some (.inl v2), some (.inl (i : Int)), none] [] G M cb sb := by
  have bs : bk ≠ s := hn_ne gb gs (by decide)
  intro f
  induction f with
  | zero =>
    intro i M cb sb e h2 h1 h3 h4 h
    have e : i = 12 := by omega
    subst e
    refine w_iln rfl ?_
    refine w_bp ?_
    refine w_cmge (fun c => ?_) (fun c => by exfalso; omega)
    exact h M _ _ h2 h1 h3 h4
  | succ f ih =>
    intro i M cb sb e h2 h1 h3 h4 h
    have ti : ((i : Int)).toNat = i := by omega
    have tr : ((88 : Int) + 12 * k + (i : Int)).toNat = r + i := by omega
    refine w_iln rfl ?_
    refine w_bp ?_
    refine w_cmge (fun c => by exfalso; omega) (fun c => ?_)
    refine w_aln rfl ?_
    refine w_gr gm rfl (by decide) rfl (by rw [h2]; exact m46) ?_
    refine w_iln rfl ?_
    refine w_aln rfl ?_
    refine w_iln rfl ?_
    refine w_iln rfl ?_
    refine w_cv (st := [.inl (i : Int), .inr (.inr (some bk))]) rfl gm rfl (Nat.le_of_ble_eq_true rfl) (fun kk h => h) ⟨Nat.le_of_ble_eq_true rfl, ?_⟩
    show wz 38 mt_X12_bidOf.2.2.2.2.1 _ mt_X12_bidOf.2.2.2.2.1 [some (.inr (.inr (some m))), some (.inl k), some (.inl (i : Int))] [] _ _ _ _
    refine w_aln rfl ?_
    refine w_gr gm rfl (by decide) rfl (by rw [h2]; exact m6) ?_
    refine w_bp ?_
    refine w_bp ?_
    refine w_iln rfl ?_
    refine w_mul ⟨by omega, by omega⟩ ?_
    refine w_add ⟨by omega, by omega⟩ ?_
    refine w_iln rfl ?_
    refine w_add ⟨by omega, by omega⟩ ?_
    refine w_iald (v := M0.1 s (r + i)) gs rfl (by omega) (by show (88 : Int) + 12 * k + (i : Int) < ((537 : Nat) : Int); omega) (by rw [tr]; exact (h3 _ (by omega)).trans (if_neg (by omega))) ?_
    refine w_iret (fun q => by cases q) ?_
    refine w_iast gb rfl (by decide) (by omega) (by show (i : Int) < ((12 : Nat) : Int); omega) ?_
    refine w_aln rfl ?_
    refine w_gr gm rfl (by decide) rfl (by show M.2.2 m 6 = _; rw [h2]; exact m6) ?_
    refine w_bp ?_
    refine w_bp ?_
    refine w_iln rfl ?_
    refine w_mul ⟨by omega, by omega⟩ ?_
    refine w_add ⟨by omega, by omega⟩ ?_
    refine w_iln rfl ?_
    refine w_add ⟨by omega, by omega⟩ ?_
    refine w_ic ?_
    refine w_iast gs rfl (by decide) (by omega) (by show (88 : Int) + 12 * k + (i : Int) < ((537 : Nat) : Int); omega) ?_
    refine w_ii rfl ⟨by omega, by omega⟩ ?_
    refine w_goto ?_
    rw [ti, tr]
    refine ih (i + 1) _ _ _ (by omega) h2 (fun a a1 a2 => (wz_c a1).trans ((wz_c a2).trans (h1 a a1 a2))) (fun j hj => ?_) (fun l hl => (congrFun (wz_c bs) l).trans ?_) h
    · by_cases q : j = r + i
      · rw [q, if_pos ⟨by omega, by omega⟩]; exact hn_s
      · refine (hn_n (Or.inr q)).trans ((congrFun (wz_c bs.symm) j).trans ((h3 j hj).trans ?_))
        by_cases c : r ≤ j ∧ j < r + i
        · rw [if_pos c, if_pos ⟨c.1, by omega⟩]
        · rw [if_neg c, if_neg (fun q2 => c ⟨q2.1, by omega⟩)]
    · rcases Nat.lt_or_ge l i with q | q
      · exact (hn_n (Or.inr (by omega))).trans (h4 l q)
      · rw [show l = i by omega]; exact hn_s
theorem r_yw2 {G : mj_G} {M0 : mj_M} {m s bk r : Nat} {Q : mj_P} {k v2 v3 : Int} {H : Nat → Int} (gm : G m = (1012, 0)) (gs : G s = (51100, 537)) (gb : G bk = (65100, 12)) (m6 : M0.2.2 m 6 = some s) (m46 : M0.2.2 m 46 = some bk) (hb : ∀ l, l < 12 → M0.1 bk l = H (r + l)) (k1 : 0 ≤ k) (k2 : k < 8) (hr : r = (88 + 12 * k).toNat) : ∀ (f i : Nat) (M : mj_M) (cb sb : Nat), i + f = 12 → M.2 = M0.2 → (∀ a, a ≠ s → M.1 a = M0.1 a) → (∀ j, j < 537 → M.1 s j = if r ≤ j ∧ j < r + i then H j else M0.1 s j) → (∀ M' cb sb, M'.2 = M0.2 → (∀ a, a ≠ s → M'.1 a = M0.1 a) → (∀ j, j < 537 → M'.1 s j = if r ≤ j ∧ j < r + 12 then H j else M0.1 s j) → wz 39 mt_X12_worth.2.2.2.2.1 Q (mt_X12_worth.2.2.2.2.1.drop 74) [some (.inr (.inr (some m))), some (.inl k), some (.inl v2), some (.inl v3), some (.inl 12)] [] G M' cb sb) → wz 39 mt_X12_worth.2.2.2.2.1 Q (mt_X12_worth.2.2.2.2.1.drop 55) [some (.inr (.inr (some m))), some (.inl k), some (.inl v2), some (.inl v3), some (.inl (i : Int))] [] G M cb sb := by
  have bs : bk ≠ s := hn_ne gb gs (by decide)
  intro f
  induction f with
  | zero =>
    intro i M cb sb e h2 h1 h3 h
    have e : i = 12 := by omega
    subst e
    refine w_il rfl ?_
    refine w_bp ?_
    refine w_cmge (fun c => ?_) (fun c => by exfalso; omega)
    exact h M _ _ h2 h1 h3
  | succ f ih =>
    intro i M cb sb e h2 h1 h3 h
    have ti : ((i : Int)).toNat = i := by omega
    have tr : ((88 : Int) + 12 * k + (i : Int)).toNat = r + i := by omega
    refine w_il rfl ?_
    refine w_bp ?_
    refine w_cmge (fun c => by exfalso; omega) (fun c => ?_)
    refine w_aln rfl ?_
    refine w_gr gm rfl (by decide) rfl (by rw [h2]; exact m6) ?_
    refine w_bp ?_
    refine w_bp ?_
    refine w_iln rfl ?_
    refine w_mul ⟨by omega, by omega⟩ ?_
    refine w_add ⟨by omega, by omega⟩ ?_
    refine w_il rfl ?_
    refine w_add ⟨by omega, by omega⟩ ?_
    refine w_aln rfl ?_
    refine w_gr gm rfl (by decide) rfl (by rw [h2]; exact m46) ?_
    refine w_il rfl ?_
    refine w_iald (v := H (r + i)) gb rfl (by omega) (by show (i : Int) < ((12 : Nat) : Int); omega) (by rw [ti, h1 bk bs]; exact hb i (by omega)) ?_
    refine w_iast gs rfl (by decide) (by omega) (by show (88 : Int) + 12 * k + (i : Int) < ((537 : Nat) : Int); omega) ?_
    refine w_ii rfl ⟨by omega, by omega⟩ ?_
    refine w_goto ?_
    rw [tr]
    refine ih (i + 1) _ _ _ (by omega) h2 (fun a a1 => (wz_c a1).trans (h1 a a1)) (fun j hj => ?_) h
    by_cases q : j = r + i
    · rw [q, if_pos ⟨by omega, by omega⟩]; exact hn_s
    · refine (hn_n (Or.inr q)).trans ((h3 j hj).trans ?_)
      by_cases c : r ≤ j ∧ j < r + i
      · rw [if_pos c, if_pos ⟨c.1, by omega⟩]
      · rw [if_neg c, if_neg (fun q2 => c ⟨q2.1, by omega⟩)]
set_option maxRecDepth 100000 in
theorem r_X12_worthC {G : mj_G} {M : mj_M} {m s bf : Nat} {Q : mj_P} (hL : yq_L G M s m (M.1 s)) (gf : G bf = (64100, 135)) (m45 : M.2.2 m 45 = some bf) (hH : ye_H2 (M.1 s)) {bk : Nat} {z1 : Int} (m46 : M.2.2 m 46 = some bk) (gk : G bk = (65100, 12)) (h : ∀ M1, rq_K2 s m bf bk M M1 → Q (some (.inl (lr_worth (M.1 s) z1))) G M1) : mj_R mj_tab 40 259 [.inr (.inr (some m)), .inl z1] G M Q := by
  have gm := hL.gm
  have gs := hL.gs
  have m6 := hL.m6
  have b0 := hH.1.1
  have nbs : bf ≠ s := hn_ne gf gs (by decide)
  have nbm : bf ≠ m := hn_ne gf gm (by decide)
  have sm : s ≠ m := hL.sm
  have es : (mj_p0 M m 0 0).1 s = M.1 s := wz_c sm
  have hK0 : rq_K s m bf M (mj_p0 M m 0 0) := ⟨rfl, fun a _ a2 _ => wz_c a2, fun j _ => congrFun es j, fun k k0 _ _ _ _ => hn_n (Or.inr k0)⟩
  have nks : bk ≠ s := hn_ne gk gs (by decide)
  have nkm : bk ≠ m := hn_ne gk gm (by decide)
  have nkf : bk ≠ bf := hn_ne gk gf (by decide)
  refine ⟨Nat.le_of_ble_eq_true rfl, ?_⟩
  show wz 39 mt_X12_worth.2.2.2.2.1 Q mt_X12_worth.2.2.2.2.1 [some (.inr (.inr (some m))), some (.inl z1), none, none, none] [] G M _ _
  refine w_aln rfl ?_
  refine w_ic ?_
  refine w_pi gm rfl (by decide) rfl (fun q => by cases q) ?_
  refine w_aln rfl ?_
  refine w_iln rfl ?_
  refine w_cv (st := []) rfl gm rfl (Nat.le_of_ble_eq_true rfl) (fun kk h => h) ⟨Nat.le_of_ble_eq_true rfl, ?_⟩
  show wz (38) mt_X12_isTown.2.2.2.2.1 _ mt_X12_isTown.2.2.2.2.1 [some (.inr (.inr (some m))), some (.inl z1)] [] _ _ _ _
  refine w_iln rfl ?_
  refine w_ic ?_
  refine w_aln rfl ?_
  refine w_gr gm rfl (by decide) rfl (m6) ?_
  refine w_ic ?_
  refine w_iald (v := (M.1 s 0)) gs rfl (by show (0 : Int) ≤ 0; omega) (by show 0 < ((537 : Nat) : Int); omega) ((hn_n (Or.inl (hn_ne gs gm (by decide)))).trans (congrArg (M.1 s) (by show (0 : Int).toNat = 0; omega))) ?_
  refine w_ic ?_
  refine w_sub ⟨by show (-2147483648 : Int) ≤ (M.1 s 0) - 1; omega, by show (M.1 s 0) - 1 < (2147483648 : Int); omega⟩ ?_
  refine w_cs (st := []) rfl (Nat.le_of_ble_eq_true rfl) (fun kk h => h) ⟨Nat.le_of_ble_eq_true rfl, ?_⟩
  show wz (37) mt_X12_isIn.2.2.2.2.1 _ mt_X12_isIn.2.2.2.2.1 [some (.inl z1), some (.inl 0), some (.inl ((M.1 s 0) - 1))] [] _ _ _ _
  refine w_iln rfl ?_
  refine w_iln rfl ?_
  refine w_cmlt (fun c1 => ?_) (fun c1 => ?_)
  · skip
    refine w_ic ?_
    refine w_iret (fun _ => Or.inl rfl) ?_
    refine w_iret (fun _ => Or.inl rfl) ?_
    refine w_ifne (fun c2 => ?_) (fun c2 => ?_)
    · exfalso; omega
    · skip
      refine w_sp ?_
      exact w_iret (fun q => by cases q) (by have q := h _ hK0.t2; unfold lr_worth at q; rw [if_neg (by omega)] at q; exact q)
  · skip
    refine w_iln rfl ?_
    refine w_iln rfl ?_
    refine w_cmgt (fun c3 => ?_) (fun c3 => ?_)
    · skip
      refine w_ic ?_
      refine w_iret (fun _ => Or.inl rfl) ?_
      refine w_iret (fun _ => Or.inl rfl) ?_
      refine w_ifne (fun c4 => ?_) (fun c4 => ?_)
      · exfalso; omega
      · skip
        refine w_sp ?_
        exact w_iret (fun q => by cases q) (by have q := h _ hK0.t2; unfold lr_worth at q; rw [if_neg (by omega)] at q; exact q)
    · skip
      refine w_ic ?_
      refine w_goto ?_
      refine w_iret (fun _ => Or.inr rfl) ?_
      refine w_iret (fun _ => Or.inr rfl) ?_
      refine w_ifne (fun c5 => ?_) (fun c5 => ?_)
      · skip
        refine w_aln rfl ?_
        refine w_cv (st := []) rfl gm rfl (Nat.le_of_ble_eq_true rfl) (fun kk h => h) (r_X12_thinksC (M0 := mj_p0 M m 0 0) (d := 37) gm gs gf m6 m45 (fun M2 t1 t2 t3 => ?_))
        have hM2 : rq_M s m bf M M2 := ⟨t1, fun a a1 a2 a3 => (t2 a a3).trans (wz_c a2), fun j _ => (congrFun (t2 s nbs.symm) j).trans (congrFun es j), fun k k0 _ _ _ _ => (congrFun (t2 m nbm.symm) k).trans (hn_n (Or.inr k0)), fun k hk => (t3 k hk).trans (congrFun es _)⟩
        have e26 : M2.2.2 m 6 = some s := by rw [hM2.1]; exact m6
        refine w_aln rfl ?_
        refine w_ic ?_
        refine w_cv (st := []) rfl gm rfl (Nat.le_of_ble_eq_true rfl) (fun kk h => h) (r_X12_wholeYear0 (d := 34) (hM2.L hL) hH (fun M3 hY => ?_))
        have hM3 := hM2.yr hY nbs nbm
        have e36 : M3.2.2 m 6 = some s := by rw [hM3.1]; exact m6
        have e346 : M3.2.2 m 46 = some bk := by rw [hM3.1]; exact m46
        refine w_aln rfl ?_
        refine w_gr gm rfl (by decide) rfl e36 ?_
        refine w_sp ?_
        refine w_iald (v := (ye_y0 (M.1 s)).1 224) gs rfl (by decide) (by decide) (hY.g (j := 224) (by decide) (by decide)) ?_
        refine w_isn ?_
        refine w_ic ?_
        refine w_isn ?_
        refine r_yw1 (M0 := M3) (r := (88 + 12 * z1).toNat) gm gs gk e36 e346 (by omega) (by omega) rfl 12 0 M3 _ _ (by decide) rfl (fun _ _ _ => rfl) (fun j _ => by rw [if_neg (by omega)]) (fun l hl => absurd hl (Nat.not_lt_zero l)) (fun M4 cb sb g2 g1 g3 g4 => ?_)
        have s4 : ∀ j, j < 221 → M4.1 s j = lr_wz (M.1 s) (88 + 12 * z1).toNat j := fun j hj => (g3 j (by omega)).trans (by rw [hM3.2.2.1 j (Or.inl hj)]; rfl)
        have hL4 : yq_L G M4 s m (lr_wz (M.1 s) (88 + 12 * z1).toNat) := ⟨gm, gs, by rw [g2]; exact e36, s4, (congrFun (g1 m sm.symm nkm.symm) 32).trans ((hM3.2.2.2.1 32 (by decide) (by decide) (by decide) (by decide) (by decide)).trans hL.lk)⟩
        have hH4 : ye_H2 (lr_wz (M.1 s) (88 + 12 * z1).toNat) := hH.bid (fun j hj => if_neg (by omega)) (fun j j1 j2 => by
          by_cases c : (88 + 12 * z1).toNat ≤ j ∧ j < (88 + 12 * z1).toNat + 12
          · rw [show lr_wz (M.1 s) (88 + 12 * z1).toNat j = 0 from if_pos c]; exact ⟨Int.le_refl 0, by decide⟩
          · rw [show lr_wz (M.1 s) (88 + 12 * z1).toNat j = M.1 s j from if_neg c]; exact hH.b j1 j2)
        refine w_aln rfl ?_
        refine w_ic ?_
        refine w_cv (st := []) rfl gm rfl (Nat.le_of_ble_eq_true rfl) (fun kk h => h) (r_X12_wholeYear0 (d := 34) hL4 hH4 (fun M5 hY5 => ?_))
        have e52 : M5.2 = M.2 := hY5.1.trans (g2.trans hM3.1)
        have e56 : M5.2.2 m 6 = some s := by rw [e52]; exact m6
        have e546 : M5.2.2 m 46 = some bk := by rw [e52]; exact m46
        have b5 : ∀ l, l < 12 → M5.1 bk l = M.1 s ((88 + 12 * z1).toNat + l) := fun l hl => (congrFun (hY5.2.1 bk nks nkm) l).trans ((g4 l hl).trans (hM3.2.2.1 _ (Or.inl (by omega))))
        refine w_aln rfl ?_
        refine w_gr gm rfl (by decide) rfl e56 ?_
        refine w_sp ?_
        refine w_iald (v := (ye_y0 (lr_wz (M.1 s) (88 + 12 * z1).toNat)).1 224) gs rfl (by decide) (by decide) (hY5.g (j := 224) (by decide) (by decide)) ?_
        refine w_isn ?_
        refine w_ic ?_
        refine w_is ?_
        refine r_yw2 (M0 := M5) (H := M.1 s) (r := (88 + 12 * z1).toNat) gm gs gk e56 e546 b5 (by omega) (by omega) rfl 12 0 M5 _ _ (by decide) rfl (fun _ _ => rfl) (fun j _ => by rw [if_neg (by omega)]) (fun M6 cb sb q2 q1 q3 => ?_)
        have e62 : M6.2 = M.2 := q2.trans e52
        refine w_aln rfl ?_
        refine w_cv (st := []) rfl gm rfl (Nat.le_of_ble_eq_true rfl) (fun kk h => h) (r_X12_forgetsC (M0 := M6) (d := 37) gm gs gf (by rw [e62]; exact m6) (by rw [e62]; exact m45) (fun M7 f1 f2 f3 => ?_))
        refine w_iln rfl ?_
        refine w_iln rfl ?_
        refine w_subw ?_
        intro z hz ez
        have hK : rq_K2 s m bf bk M M7 := by
          refine ⟨f1.trans e62, fun a a1 a2 a3 a4 => (f2 a a1).trans ((q1 a a1).trans ((hY5.2.1 a a1 a2).trans ((g1 a a1 a4).trans (hM3.2.1 a a1 a2 a3)))), fun j hj => ?_, fun k k0 k1 k2 k3 k4 => (congrFun (f2 m sm.symm) k).trans ((congrFun (q1 m sm.symm) k).trans ((hY5.2.2.1 k k1 k2 k3 k4).trans ((congrFun (g1 m sm.symm nkm.symm) k).trans (hM3.2.2.2.1 k k0 k1 k2 k3 k4))))⟩
          by_cases c : 221 ≤ j ∧ j < 356
          · rw [(f3 j hj).1 c, q1 bf nbs, hY5.2.1 bf nbs nbm, g1 bf nbs nkf.symm, hM3.2.2.2.2 (j - 221) (by omega), show 221 + (j - 221) = j by omega]
          · rw [(f3 j hj).2 (by omega), q3 j hj]
            by_cases c2 : (88 + 12 * z1).toNat ≤ j ∧ j < (88 + 12 * z1).toNat + 12
            · rw [if_pos c2]
            · rw [if_neg c2, hY5.2.2.2.1 j (by omega), g3 j hj, if_neg c2]
              exact hM3.2.2.1 j (by omega)
        refine w_iret (fun q => by cases q) ?_
        have q := h M7 hK
        unfold lr_worth at q
        rw [if_pos ⟨by omega, by omega⟩] at q
        rw [ez]; exact q
      · exfalso; omega
theorem r_ym1 {G : mj_G} {m s r : Nat} {Q : mj_P} {k o wa : Int} {H : Nat → Int} (k1 : 0 ≤ k) (k2 : k < 8) (o1 : 0 ≤ o) (o2 : o < 12) (hr : r = (88 + 12 * k + o).toNat) {M0 : mj_M} {g n : Int} (hL : yq_L G M0 s m H) (hH : ye_H2 H) : ∀ (f i : Nat) (M : mj_M) (cb sb : Nat), (i : Int) + f = o + 1 → yq_T s m M0 (ye_it H (fun _ => 0) (ye_fr H) i) M → (∀ M' v6 cb sb, yq_T s m M0 (ye_it H (fun _ => 0) (ye_fr H) (o.toNat + 1)) M' → wz 39 mt_X12_must.2.2.2.2.1 Q (mt_X12_must.2.2.2.2.1.drop 51) [some (.inr (.inr (some m))), some (.inl k), some (.inl o), some (.inl wa), some (.inl g), some (.inl n), v6] [] G M' cb sb) → wz 39 mt_X12_must.2.2.2.2.1 Q (mt_X12_must.2.2.2.2.1.drop 43) [some (.inr (.inr (some m))), some (.inl k), some (.inl o), some (.inl wa), some (.inl g), some (.inl n), some (.inl (i : Int))] [] G M cb sb := by
  have hf := ye_fr_ok hH
  intro f
  induction f with
  | zero =>
    intro i M cb sb e hT h
    obtain rfl : i = o.toNat + 1 := by omega
    refine w_il rfl ?_
    refine w_iln rfl ?_
    refine w_cmgt (fun c => ?_) (fun c => by exfalso; omega)
    exact h M _ _ _ hT
  | succ f ih =>
    intro i M cb sb e hT h
    have hok := ye_it_ok hH.1 hf.1 (xs := fun _ => 0) (fun _ => ⟨Int.le_refl 0, by decide⟩) i (by rw [hf.2]; omega)
    refine w_il rfl ?_
    refine w_iln rfl ?_
    refine w_cmgt (fun c => by exfalso; omega) (fun c => ?_)
    refine w_aln rfl ?_
    refine w_ic ?_
    refine w_cv (st := []) rfl hL.gm rfl (Nat.le_of_ble_eq_true rfl) (fun kk h => h) (r_monthT (d := 35) hL hT hH.1 hok.1 (by rw [hok.2, hf.2]; omega) ⟨Int.le_refl 0, by decide⟩ (fun M1 hT1 => ?_))
    refine w_ii rfl ⟨by omega, by omega⟩ ?_
    refine w_goto ?_
    exact ih (i + 1) M1 _ _ (by omega) hT1 h
theorem rq_Mr.up {G : mj_G} {M0 M : mj_M} {m s bf r : Nat} {n : Int} (h : rq_Mr s m bf r M0 M) (nbs : bf ≠ s) (sm : s ≠ m) (hr : r < 221) : rq_Mr s m bf r M0 (mj_p0 M s r n) := ⟨h.1, fun a a1 a2 a3 => (wz_c a1).trans (h.2.1 a a1 a2 a3), fun j j1 j2 => (hn_n (Or.inr j1)).trans (h.2.2.1 j j1 j2), fun k k0 k1 k2 k3 k4 => (congrFun (wz_c sm.symm) k).trans (h.2.2.2.1 k k0 k1 k2 k3 k4), fun k hk => (congrFun (wz_c nbs) k).trans (h.2.2.2.2 k hk)⟩
theorem r_ym2 {G : mj_G} {m s r : Nat} {Q : mj_P} {k o wa : Int} {H : Nat → Int} (k1 : 0 ≤ k) (k2 : k < 8) (o1 : 0 ≤ o) (o2 : o < 12) (hr : r = (88 + 12 * k + o).toNat) {M0 : mj_M} {bf : Nat} {A : Int} (hL : yq_L G M0 s m H) (hHs : M0.1 s = H) (gf : G bf = (64100, 135)) (m45 : M0.2.2 m 45 = some bf) (hH : ye_H2 H) (hw : wa = H r) (hQ : ∀ M', rq_K s m bf M0 M' → Q (some (.inl A)) G M') : ∀ (f : Nat) (n : Int) (M : mj_M) (v6 : Option mj_V) (cb sb : Nat), n + f = 1000 → 1 ≤ n → lr_mf H k r o.toNat f n = A → rq_Mr s m bf r M0 M → wz 39 mt_X12_must.2.2.2.2.1 Q (mt_X12_must.2.2.2.2.1.drop 23) [some (.inr (.inr (some m))), some (.inl k), some (.inl o), some (.inl wa), some (.inl (-1)), some (.inl n), v6] [] G M cb sb := by
  have tr : ((88 : Int) + 12 * k + o).toNat = r := by omega
  have gm := hL.gm
  have gs := hL.gs
  have m6 := hL.m6
  have sm := hL.sm
  have nbs : bf ≠ s := hn_ne gf gs (by decide)
  have nbm : bf ≠ m := hn_ne gf gm (by decide)
  have r1 : 88 ≤ r ∧ r < 184 := by omega
  have fin : ∀ (n g : Int) (M : mj_M) (v6 : Option mj_V) (cb sb : Nat), g = A → rq_Mr s m bf r M0 M → wz 39 mt_X12_must.2.2.2.2.1 Q (mt_X12_must.2.2.2.2.1.drop 76) [some (.inr (.inr (some m))), some (.inl k), some (.inl o), some (.inl wa), some (.inl g), some (.inl n), v6] [] G M cb sb := by
    intro n g M v6 cb sb eg h1
    refine w_aln rfl ?_
    refine w_gr gm rfl (by decide) rfl (by rw [h1.1]; exact m6) ?_
    refine w_bp ?_
    refine w_bp ?_
    refine w_iln rfl ?_
    refine w_mul ⟨by omega, by omega⟩ ?_
    refine w_add ⟨by omega, by omega⟩ ?_
    refine w_iln rfl ?_
    refine w_add ⟨by omega, by omega⟩ ?_
    refine w_iln rfl ?_
    refine w_iast gs rfl (by decide) (by omega) (by show (88 : Int) + 12 * k + o < ((537 : Nat) : Int); omega) ?_
    rw [tr]
    have h2 := h1.up (n := wa) (G := G) nbs sm (by omega)
    refine w_aln rfl ?_
    refine w_cv (st := []) rfl gm rfl (Nat.le_of_ble_eq_true rfl) (fun kk h => h) (r_X12_forgetsC (d := 37) gm gs gf (by rw [h2.1]; exact m6) (by rw [h2.1]; exact m45) (fun M1 f1 f2 f3 => ?_))
    refine w_il rfl ?_
    refine w_iret (fun q => by cases q) ?_
    rw [eg]
    refine hQ M1 ⟨f1.trans h2.1, fun a a1 a2 a3 => (f2 a a1).trans (h2.2.1 a a1 a2 a3), fun j hj => ?_, fun k k0 k1 k2 k3 k4 => (congrFun (f2 m sm.symm) k).trans (h2.2.2.2.1 k k0 k1 k2 k3 k4)⟩
    by_cases c : 221 ≤ j ∧ j < 356
    · rw [(f3 j hj).1 c, h2.2.2.2.2 (j - 221) (by omega), show 221 + (j - 221) = j by omega]
    · rw [(f3 j hj).2 (by omega)]
      by_cases c2 : j = r
      · rw [c2, hHs, ← hw]; exact hn_s
      · exact h2.2.2.1 j c2 (by omega)
  have ex : ∀ (n g : Int) (M : mj_M) (v6 : Option mj_V) (cb sb : Nat), 0 ≤ g → g = A → rq_Mr s m bf r M0 M → wz 39 mt_X12_must.2.2.2.2.1 Q (mt_X12_must.2.2.2.2.1.drop 23) [some (.inr (.inr (some m))), some (.inl k), some (.inl o), some (.inl wa), some (.inl g), some (.inl n), v6] [] G M cb sb := by
    intro n g M v6 cb sb g0 eg h1
    refine w_il rfl ?_
    refine w_sp ?_
    refine w_cmge (fun c => fin n g M v6 _ _ eg h1) (fun c => ?_)
    refine w_il rfl ?_
    exact w_ifge (fun c2 => fin n g M v6 _ _ eg h1) (fun c2 => by exfalso; omega)
  intro f
  induction f with
  | zero =>
    intro n M v6 cb sb e n1 hA h1
    refine w_il rfl ?_
    refine w_sp ?_
    refine w_cmge (fun c => ?_) (fun c => by exfalso; omega)
    exact fin n (-1) M v6 _ _ hA h1
  | succ f ih =>
    intro n M v6 cb sb e n1 hA h1
    refine w_il rfl ?_
    refine w_sp ?_
    refine w_cmge (fun c => by exfalso; omega) (fun c => ?_)
    refine w_il rfl ?_
    refine w_ifge (fun c2 => absurd c2 (by decide)) (fun c2 => ?_)
    refine w_aln rfl ?_
    refine w_gr gm rfl (by decide) rfl (by rw [h1.1]; exact m6) ?_
    refine w_bp ?_
    refine w_bp ?_
    refine w_iln rfl ?_
    refine w_mul ⟨by omega, by omega⟩ ?_
    refine w_add ⟨by omega, by omega⟩ ?_
    refine w_iln rfl ?_
    refine w_add ⟨by omega, by omega⟩ ?_
    refine w_il rfl ?_
    refine w_iast gs rfl (by decide) (by omega) (by show (88 : Int) + 12 * k + o < ((537 : Nat) : Int); omega) ?_
    rw [tr]
    have h2 := h1.up (n := n) (G := G) nbs sm (by omega)
    have s2 : ∀ j, j < 221 → (mj_p0 M s r n).1 s j = rv_up H r n j := fun j hj => by
      by_cases c : j = r
      · rw [c, rv_up_s]; exact hn_s
      · rw [rv_up_n c]; exact (hn_n (Or.inr c)).trans ((h1.2.2.1 j c (Or.inl hj)).trans (by rw [hHs]))
    have hHn : ye_H2 (rv_up H r n) := hH.bid (fun j hj => rv_up_n (by omega)) (fun j j1 j2 => by
      by_cases c : j = r
      · rw [c, rv_up_s]; omega
      · rw [rv_up_n c]; exact hH.b j1 j2)
    refine w_aln rfl ?_
    refine w_cv (st := []) rfl gm rfl (Nat.le_of_ble_eq_true rfl) (fun kk h => h) (r_X12_beginsC (d := 37) gm gs (by rw [h2.1]; exact m6) s2 hHn.1.1 hHn.2 (fun M1 hZ => ?_))
    have hT1 := hZ.T (m := m)
    obtain ⟨z1, z2, z3, -⟩ := hZ
    have hL1 : yq_L G M1 s m (rv_up H r n) := ⟨gm, gs, by rw [z1, h2.1]; exact m6, fun j hj => (z3 j (Or.inl hj)).trans (s2 j hj), (congrFun (z2 m sm.symm) 32).trans ((h2.2.2.2.1 32 (by decide) (by decide) (by decide) (by decide) (by decide)).trans hL.lk)⟩
    refine w_ic ?_
    refine w_is ?_
    refine r_ym1 k1 k2 o1 o2 hr hL1 hHn (o + 1).toNat 0 M1 _ _ (by omega) hT1 (fun M2 v6 cb sb hT2 => ?_)
    have h3 : rq_Mr s m bf r M0 M2 ∧ M2.1 s ((320 : Int) + 3 * o).toNat = (lr_mu H r o.toNat n).2.1 o.toNat ∧ M2.1 s ((320 : Int) + 3 * o + 1).toNat = (lr_mu H r o.toNat n).2.2.1 o.toNat := by
      obtain ⟨L, O, P, c1, c2, c3, -, c5, c6, c7, c8⟩ := hT2
      obtain ⟨q1, q2, -⟩ := c7 o.toNat (by omega)
      refine ⟨⟨c1.trans (z1.trans h2.1), fun a a1 a2 a3 => (c2 a a1 a2).trans ((z2 a a1).trans (h2.2.1 a a1 a2 a3)), fun j j1 j2 => (c5 j (by omega)).trans ((z3 j (by omega)).trans (h2.2.2.1 j j1 j2)), fun k k0 k1 k2 k3 k4 => (c3 k k1 k2 k3).trans ((congrFun (z2 m sm.symm) k).trans (h2.2.2.2.1 k k0 k1 k2 k3 k4)), fun k hk => (congrFun (c2 bf nbs nbm) k).trans ((congrFun (z2 bf nbs) k).trans (h2.2.2.2.2 k hk))⟩, ?_, ?_⟩
      · rw [show ((320 : Int) + 3 * o).toNat = 320 + 3 * o.toNat by omega]; exact q1
      · rw [show ((320 : Int) + 3 * o + 1).toNat = 321 + 3 * o.toNat by omega]; exact q2
    obtain ⟨h3, v320, v321⟩ := h3
    refine w_aln rfl ?_
    refine w_gr gm rfl (by decide) rfl (by rw [h3.1]; exact m6) ?_
    refine w_sp ?_
    refine w_ic ?_
    refine w_iln rfl ?_
    refine w_mul ⟨by omega, by omega⟩ ?_
    refine w_add ⟨by omega, by omega⟩ ?_
    refine w_iald (v := (lr_mu H r o.toNat n).2.1 o.toNat) gs rfl (by omega) (by show (320 : Int) + 3 * o < ((537 : Nat) : Int); omega) v320 ?_
    refine w_iln rfl ?_
    refine w_cmne (fun c3 => ?_) (fun c3 => ?_)
    · refine w_ii rfl ⟨by omega, by omega⟩ ?_
      refine w_goto ?_
      exact ih (n + 1) M2 _ _ _ (by omega) (by omega) ((if_neg (fun q => c3 q.1)).symm.trans hA) h3
    · refine w_aln rfl ?_
      refine w_gr gm rfl (by decide) rfl (by rw [h3.1]; exact m6) ?_
      refine w_sp ?_
      refine w_ic ?_
      refine w_iln rfl ?_
      refine w_mul ⟨by omega, by omega⟩ ?_
      refine w_add ⟨by omega, by omega⟩ ?_
      refine w_ic ?_
      refine w_add ⟨by omega, by omega⟩ ?_
      refine w_iald (v := (lr_mu H r o.toNat n).2.2.1 o.toNat) gs rfl (by omega) (by show (320 : Int) + 3 * o + 1 < ((537 : Nat) : Int); omega) v321 ?_
      refine w_ifge (fun c4 => ?_) (fun c4 => ?_)
      · refine w_ii rfl ⟨by omega, by omega⟩ ?_
        refine w_goto ?_
        exact ih (n + 1) M2 _ _ _ (by omega) (by omega) ((if_neg (fun q => by have := q.2; omega)).symm.trans hA) h3
      · refine w_il rfl ?_
        refine w_is ?_
        refine w_ii rfl ⟨by omega, by omega⟩ ?_
        refine w_goto ?_
        exact ex (n + 1) n M2 _ _ _ (by omega) ((if_pos ⟨c3, c4⟩).symm.trans hA) h3
set_option maxRecDepth 100000 in
theorem r_X12_mustC {G : mj_G} {M : mj_M} {m s bf : Nat} {Q : mj_P} (hL : yq_L G M s m (M.1 s)) (gf : G bf = (64100, 135)) (m45 : M.2.2 m 45 = some bf) (hH : ye_H2 (M.1 s)) {z1 z2 : Int} (h : ∀ M1, rq_K s m bf M M1 → Q (some (.inl (lr_must (M.1 s) z1 z2))) G M1) : mj_R mj_tab 40 215 [.inr (.inr (some m)), .inl z1, .inl z2] G M Q := by
  have gm := hL.gm
  have gs := hL.gs
  have m6 := hL.m6
  have b0 := hH.1.1
  have nbs : bf ≠ s := hn_ne gf gs (by decide)
  have nbm : bf ≠ m := hn_ne gf gm (by decide)
  have sm : s ≠ m := hL.sm
  have es : (mj_p0 M m 0 0).1 s = M.1 s := wz_c sm
  have hK0 : rq_K s m bf M (mj_p0 M m 0 0) := ⟨rfl, fun a _ a2 _ => wz_c a2, fun j _ => congrFun es j, fun k k0 _ _ _ _ => hn_n (Or.inr k0)⟩
  refine ⟨Nat.le_of_ble_eq_true rfl, ?_⟩
  show wz 39 mt_X12_must.2.2.2.2.1 Q mt_X12_must.2.2.2.2.1 [some (.inr (.inr (some m))), some (.inl z1), some (.inl z2), none, none, none, none] [] G M _ _
  refine w_aln rfl ?_
  refine w_ic ?_
  refine w_pi gm rfl (by decide) rfl (fun q => by cases q) ?_
  refine w_aln rfl ?_
  refine w_iln rfl ?_
  refine w_cv (st := []) rfl gm rfl (Nat.le_of_ble_eq_true rfl) (fun kk h => h) ⟨Nat.le_of_ble_eq_true rfl, ?_⟩
  show wz (38) mt_X12_isTown.2.2.2.2.1 _ mt_X12_isTown.2.2.2.2.1 [some (.inr (.inr (some m))), some (.inl z1)] [] _ _ _ _
  refine w_iln rfl ?_
  refine w_ic ?_
  refine w_aln rfl ?_
  refine w_gr gm rfl (by decide) rfl (m6) ?_
  refine w_ic ?_
  refine w_iald (v := (M.1 s 0)) gs rfl (by show (0 : Int) ≤ 0; omega) (by show 0 < ((537 : Nat) : Int); omega) ((hn_n (Or.inl (hn_ne gs gm (by decide)))).trans (congrArg (M.1 s) (by show (0 : Int).toNat = 0; omega))) ?_
  refine w_ic ?_
  refine w_sub ⟨by show (-2147483648 : Int) ≤ (M.1 s 0) - 1; omega, by show (M.1 s 0) - 1 < (2147483648 : Int); omega⟩ ?_
  refine w_cs (st := []) rfl (Nat.le_of_ble_eq_true rfl) (fun kk h => h) ⟨Nat.le_of_ble_eq_true rfl, ?_⟩
  show wz (37) mt_X12_isIn.2.2.2.2.1 _ mt_X12_isIn.2.2.2.2.1 [some (.inl z1), some (.inl 0), some (.inl ((M.1 s 0) - 1))] [] _ _ _ _
  refine w_iln rfl ?_
  refine w_iln rfl ?_
  refine w_cmlt (fun c1 => ?_) (fun c1 => ?_)
  · skip
    refine w_ic ?_
    refine w_iret (fun _ => Or.inl rfl) ?_
    refine w_iret (fun _ => Or.inl rfl) ?_
    refine w_ifeq (fun c2 => ?_) (fun c2 => ?_)
    · skip
      refine w_ic ?_
      exact w_iret (fun q => by cases q) (by have q := h _ hK0; unfold lr_must at q; rw [if_neg (by omega)] at q; exact q)
    · exfalso; omega
  · skip
    refine w_iln rfl ?_
    refine w_iln rfl ?_
    refine w_cmgt (fun c3 => ?_) (fun c3 => ?_)
    · skip
      refine w_ic ?_
      refine w_iret (fun _ => Or.inl rfl) ?_
      refine w_iret (fun _ => Or.inl rfl) ?_
      refine w_ifeq (fun c4 => ?_) (fun c4 => ?_)
      · skip
        refine w_ic ?_
        exact w_iret (fun q => by cases q) (by have q := h _ hK0; unfold lr_must at q; rw [if_neg (by omega)] at q; exact q)
      · exfalso; omega
    · skip
      refine w_ic ?_
      refine w_goto ?_
      refine w_iret (fun _ => Or.inr rfl) ?_
      refine w_iret (fun _ => Or.inr rfl) ?_
      refine w_ifeq (fun c5 => ?_) (fun c5 => ?_)
      · exfalso; omega
      · skip
        refine w_iln rfl ?_
        refine w_cs (st := []) rfl (Nat.le_of_ble_eq_true rfl) (fun kk h => h) ⟨Nat.le_of_ble_eq_true rfl, ?_⟩
        show wz (38) mt_X12_isMonth.2.2.2.2.1 _ mt_X12_isMonth.2.2.2.2.1 [some (.inl z2)] [] _ _ _ _
        refine w_iln rfl ?_
        refine w_ic ?_
        refine w_bp ?_
        refine w_cs (st := []) rfl (Nat.le_of_ble_eq_true rfl) (fun kk h => h) ⟨Nat.le_of_ble_eq_true rfl, ?_⟩
        show wz (37) mt_X12_isIn.2.2.2.2.1 _ mt_X12_isIn.2.2.2.2.1 [some (.inl z2), some (.inl 0), some (.inl 11)] [] _ _ _ _
        refine w_iln rfl ?_
        refine w_iln rfl ?_
        refine w_cmlt (fun c6 => ?_) (fun c6 => ?_)
        · skip
          refine w_ic ?_
          refine w_iret (fun _ => Or.inl rfl) ?_
          refine w_iret (fun _ => Or.inl rfl) ?_
          refine w_ifne (fun c7 => ?_) (fun c7 => ?_)
          · exfalso; omega
          · skip
            refine w_ic ?_
            exact w_iret (fun q => by cases q) (by have q := h _ hK0; unfold lr_must at q; rw [if_neg (by omega)] at q; exact q)
        · skip
          refine w_iln rfl ?_
          refine w_iln rfl ?_
          refine w_cmgt (fun c8 => ?_) (fun c8 => ?_)
          · skip
            refine w_ic ?_
            refine w_iret (fun _ => Or.inl rfl) ?_
            refine w_iret (fun _ => Or.inl rfl) ?_
            refine w_ifne (fun c9 => ?_) (fun c9 => ?_)
            · exfalso; omega
            · skip
              refine w_ic ?_
              exact w_iret (fun q => by cases q) (by have q := h _ hK0; unfold lr_must at q; rw [if_neg (by omega)] at q; exact q)
          · skip
            refine w_ic ?_
            refine w_goto ?_
            refine w_iret (fun _ => Or.inr rfl) ?_
            refine w_iret (fun _ => Or.inr rfl) ?_
            refine w_ifne (fun c10 => ?_) (fun c10 => ?_)
            · skip
              refine w_aln rfl ?_
              refine w_cv (st := []) rfl gm rfl (Nat.le_of_ble_eq_true rfl) (fun kk h => h) (r_X12_thinksC (M0 := mj_p0 M m 0 0) (d := 37) gm gs gf m6 m45 (fun M2 t1 t2 t3 => ?_))
              have hM2 : rq_M s m bf M M2 := ⟨t1, fun a a1 a2 a3 => (t2 a a3).trans (wz_c a2), fun j _ => (congrFun (t2 s nbs.symm) j).trans (congrFun es j), fun k k0 _ _ _ _ => (congrFun (t2 m nbm.symm) k).trans (hn_n (Or.inr k0)), fun k hk => (t3 k hk).trans (congrFun es _)⟩
              have e26 : M2.2.2 m 6 = some s := by rw [hM2.1]; exact m6
              refine w_aln rfl ?_
              refine w_iln rfl ?_
              refine w_iln rfl ?_
              refine w_cv (st := []) rfl gm rfl (Nat.le_of_ble_eq_true rfl) (fun kk h => h) ⟨Nat.le_of_ble_eq_true rfl, ?_⟩
              show wz 38 mt_X12_bidOf.2.2.2.2.1 _ mt_X12_bidOf.2.2.2.2.1 [some (.inr (.inr (some m))), some (.inl z1), some (.inl z2)] [] _ _ _ _
              refine w_aln rfl ?_
              refine w_gr gm rfl (by decide) rfl e26 ?_
              refine w_bp ?_
              refine w_bp ?_
              refine w_iln rfl ?_
              refine w_mul ⟨by omega, by omega⟩ ?_
              refine w_add ⟨by omega, by omega⟩ ?_
              refine w_iln rfl ?_
              refine w_add ⟨by omega, by omega⟩ ?_
              refine w_iald (v := M.1 s (88 + 12 * z1 + z2).toNat) gs rfl (by omega) (by show (88 : Int) + 12 * z1 + z2 < ((537 : Nat) : Int); omega) (hM2.2.2.1 _ (Or.inl (by omega))) ?_
              refine w_iret (fun q => by cases q) ?_
              refine w_isn ?_
              refine w_ic ?_
              refine w_is ?_
              refine w_ic ?_
              refine w_is ?_
              have q := h
              unfold lr_must at q
              rw [if_pos ⟨⟨by omega, by omega⟩, by omega, by omega⟩] at q
              exact r_ym2 (H := M.1 s) (r := (88 + 12 * z1 + z2).toNat) (by omega) (by omega) (by omega) (by omega) rfl hL rfl gf m45 hH rfl q 999 1 M2 none _ _ (by decide) (by decide) rfl ⟨hM2.1, hM2.2.1, fun j _ j2 => hM2.2.2.1 j j2, hM2.2.2.2.1, hM2.2.2.2.2⟩
            · exfalso; omega
theorem r_ysh {G : mj_G} {M0 : mj_M} {m s bf : Nat} {Q : mj_P} {k n z : Int} {H : Nat → Int} (hL : yq_L G M0 s m H) (gf : G bf = (64100, 135)) (hH : ye_H2 H) (k1 : 0 ≤ k) (k2 : k < 8) (n1 : 1 ≤ n) (n2 : n ≤ 100) : ∀ (f i : Nat) (M : mj_M) (cb sb : Nat), (i : Int) + f = n → rq_M s m bf M0 M → (∀ M' cb sb, rq_M s m bf M0 M' → wz 39 mt_X12_shores.2.2.2.2.1 Q (mt_X12_shores.2.2.2.2.1.drop 40) [some (.inr (.inr (some m))), some (.inl k), some (.inl n), some (.inl z), some (.inl (lr_sh H k.toNat z n.toNat)), some (.inl n)] [] G M' cb sb) → wz 39 mt_X12_shores.2.2.2.2.1 Q (mt_X12_shores.2.2.2.2.1.drop 20) [some (.inr (.inr (some m))), some (.inl k), some (.inl n), some (.inl z), some (.inl (lr_sh H k.toNat z i)), some (.inl (i : Int))] [] G M cb sb := by
  have gm := hL.gm
  have gs := hL.gs
  have m6 := hL.m6
  have sm := hL.sm
  have nbs : bf ≠ s := hn_ne gf gs (by decide)
  have nbm : bf ≠ m := hn_ne gf gm (by decide)
  intro f
  induction f with
  | zero =>
    intro i M cb sb e hM h
    obtain rfl : n = (i : Int) := by omega
    refine w_il rfl ?_
    refine w_iln rfl ?_
    refine w_cmge (fun c => ?_) (fun c => by exfalso; omega)
    exact h M _ _ hM
  | succ f ih =>
    intro i M cb sb e hM h
    refine w_il rfl ?_
    refine w_iln rfl ?_
    refine w_cmge (fun c => by exfalso; omega) (fun c => ?_)
    refine w_aln rfl ?_
    refine w_iln rfl ?_
    refine w_il rfl ?_
    refine w_addw ?_
    intro x hx ex
    rw [show x = lr_sx z i from ex]
    refine w_pi gm rfl (by decide) rfl (fun q => by cases q) ?_
    have hM1 : rq_M s m bf M0 (mj_p0 M m 47 (lr_sx z i)) := ⟨hM.1, fun a a1 a2 a3 => (wz_c a2).trans (hM.2.1 a a1 a2 a3), fun j hj => (congrFun (wz_c sm) j).trans (hM.2.2.1 j hj), fun k k0 k1 k2 k3 k4 => (hn_n (Or.inr k4)).trans (hM.2.2.2.1 k k0 k1 k2 k3 k4), fun k hk => (congrFun (wz_c nbm) k).trans (hM.2.2.2.2 k hk)⟩
    refine w_aln rfl ?_
    refine w_ic ?_
    refine w_cv (st := []) rfl gm rfl (Nat.le_of_ble_eq_true rfl) (fun kk h => h) (r_X12_wholeYear1 (d := 34) (hM1.L hL) hH hn_s (fun M2 hY => ?_))
    have hM2 := hM1.yr hY nbs nbm
    refine w_il rfl ?_
    refine w_aln rfl ?_
    refine w_iln rfl ?_
    refine w_ic ?_
    refine w_cv (st := [.inl (lr_sh H k.toNat z i)]) rfl gm rfl (Nat.le_of_ble_eq_true rfl) (fun kk h => h) ⟨Nat.le_of_ble_eq_true rfl, ?_⟩
    show wz 38 mt_X12_of.2.2.2.2.1 _ mt_X12_of.2.2.2.2.1 [some (.inr (.inr (some m))), some (.inl k), some (.inl 3)] [] _ _ _ _
    refine w_aln rfl ?_
    refine w_gr gm rfl (by decide) rfl (by rw [hM2.1]; exact m6) ?_
    refine w_sp ?_
    refine w_bp ?_
    refine w_iln rfl ?_
    refine w_mul ⟨by omega, by omega⟩ ?_
    refine w_add ⟨by omega, by omega⟩ ?_
    refine w_iln rfl ?_
    refine w_add ⟨by omega, by omega⟩ ?_
    refine w_iald (v := (ye_yd H (lr_sx z i)).2.2.2.2 k.toNat 3) gs rfl (by omega) (by show (232 : Int) + 11 * k + 3 < ((537 : Nat) : Int); omega) (hY.R (t := k.toNat) (w := 3) (by omega) (by omega) (by decide)) ?_
    refine w_iret (fun q => by cases q) ?_
    refine w_addw ?_
    intro y hy ey
    rw [show y = lr_sh H k.toNat z (i + 1) from ey.trans lr_sh_s.symm]
    refine w_is ?_
    refine w_ii rfl ⟨by omega, by omega⟩ ?_
    refine w_goto ?_
    exact ih (i + 1) M2 _ _ (by omega) hM2 h
set_option maxRecDepth 100000 in
theorem r_X12_shoresC {G : mj_G} {M : mj_M} {m s bf : Nat} {Q : mj_P} (hL : yq_L G M s m (M.1 s)) (gf : G bf = (64100, 135)) (m45 : M.2.2 m 45 = some bf) (hH : ye_H2 (M.1 s)) {z1 z2 z3 : Int} (h : ∀ M1, rq_K s m bf M M1 → Q (some (.inl (lr_shores (M.1 s) z1 z2 z3))) G M1) : mj_R mj_tab 40 240 [.inr (.inr (some m)), .inl z1, .inl z2, .inl z3] G M Q := by
  have gm := hL.gm
  have gs := hL.gs
  have m6 := hL.m6
  have b0 := hH.1.1
  have nbs : bf ≠ s := hn_ne gf gs (by decide)
  have nbm : bf ≠ m := hn_ne gf gm (by decide)
  have sm : s ≠ m := hL.sm
  have es : (mj_p0 M m 0 0).1 s = M.1 s := wz_c sm
  have hK0 : rq_K s m bf M (mj_p0 M m 0 0) := ⟨rfl, fun a _ a2 _ => wz_c a2, fun j _ => congrFun es j, fun k k0 _ _ _ _ => hn_n (Or.inr k0)⟩
  refine ⟨Nat.le_of_ble_eq_true rfl, ?_⟩
  show wz 39 mt_X12_shores.2.2.2.2.1 Q mt_X12_shores.2.2.2.2.1 [some (.inr (.inr (some m))), some (.inl z1), some (.inl z2), some (.inl z3), none, none] [] G M _ _
  refine w_aln rfl ?_
  refine w_ic ?_
  refine w_pi gm rfl (by decide) rfl (fun q => by cases q) ?_
  refine w_aln rfl ?_
  refine w_iln rfl ?_
  refine w_cv (st := []) rfl gm rfl (Nat.le_of_ble_eq_true rfl) (fun kk h => h) ⟨Nat.le_of_ble_eq_true rfl, ?_⟩
  show wz (38) mt_X12_isTown.2.2.2.2.1 _ mt_X12_isTown.2.2.2.2.1 [some (.inr (.inr (some m))), some (.inl z1)] [] _ _ _ _
  refine w_iln rfl ?_
  refine w_ic ?_
  refine w_aln rfl ?_
  refine w_gr gm rfl (by decide) rfl (m6) ?_
  refine w_ic ?_
  refine w_iald (v := (M.1 s 0)) gs rfl (by show (0 : Int) ≤ 0; omega) (by show 0 < ((537 : Nat) : Int); omega) ((hn_n (Or.inl (hn_ne gs gm (by decide)))).trans (congrArg (M.1 s) (by show (0 : Int).toNat = 0; omega))) ?_
  refine w_ic ?_
  refine w_sub ⟨by show (-2147483648 : Int) ≤ (M.1 s 0) - 1; omega, by show (M.1 s 0) - 1 < (2147483648 : Int); omega⟩ ?_
  refine w_cs (st := []) rfl (Nat.le_of_ble_eq_true rfl) (fun kk h => h) ⟨Nat.le_of_ble_eq_true rfl, ?_⟩
  show wz (37) mt_X12_isIn.2.2.2.2.1 _ mt_X12_isIn.2.2.2.2.1 [some (.inl z1), some (.inl 0), some (.inl ((M.1 s 0) - 1))] [] _ _ _ _
  refine w_iln rfl ?_
  refine w_iln rfl ?_
  refine w_cmlt (fun c1 => ?_) (fun c1 => ?_)
  · skip
    refine w_ic ?_
    refine w_iret (fun _ => Or.inl rfl) ?_
    refine w_iret (fun _ => Or.inl rfl) ?_
    refine w_ifeq (fun c2 => ?_) (fun c2 => ?_)
    · skip
      refine w_ic ?_
      exact w_iret (fun q => by cases q) (by have q := h _ hK0; unfold lr_shores at q; rw [if_neg (by omega)] at q; exact q)
    · exfalso; omega
  · skip
    refine w_iln rfl ?_
    refine w_iln rfl ?_
    refine w_cmgt (fun c3 => ?_) (fun c3 => ?_)
    · skip
      refine w_ic ?_
      refine w_iret (fun _ => Or.inl rfl) ?_
      refine w_iret (fun _ => Or.inl rfl) ?_
      refine w_ifeq (fun c4 => ?_) (fun c4 => ?_)
      · skip
        refine w_ic ?_
        exact w_iret (fun q => by cases q) (by have q := h _ hK0; unfold lr_shores at q; rw [if_neg (by omega)] at q; exact q)
      · exfalso; omega
    · skip
      refine w_ic ?_
      refine w_goto ?_
      refine w_iret (fun _ => Or.inr rfl) ?_
      refine w_iret (fun _ => Or.inr rfl) ?_
      refine w_ifeq (fun c5 => ?_) (fun c5 => ?_)
      · exfalso; omega
      · skip
        refine w_iln rfl ?_
        refine w_ic ?_
        refine w_bp ?_
        refine w_cs (st := []) rfl (Nat.le_of_ble_eq_true rfl) (fun kk h => h) ⟨Nat.le_of_ble_eq_true rfl, ?_⟩
        show wz (38) mt_X12_isIn.2.2.2.2.1 _ mt_X12_isIn.2.2.2.2.1 [some (.inl z2), some (.inl 1), some (.inl 100)] [] _ _ _ _
        refine w_iln rfl ?_
        refine w_iln rfl ?_
        refine w_cmlt (fun c6 => ?_) (fun c6 => ?_)
        · skip
          refine w_ic ?_
          refine w_iret (fun _ => Or.inl rfl) ?_
          refine w_ifne (fun c7 => ?_) (fun c7 => ?_)
          · exfalso; omega
          · skip
            refine w_ic ?_
            exact w_iret (fun q => by cases q) (by have q := h _ hK0; unfold lr_shores at q; rw [if_neg (by omega)] at q; exact q)
        · skip
          refine w_iln rfl ?_
          refine w_iln rfl ?_
          refine w_cmgt (fun c8 => ?_) (fun c8 => ?_)
          · skip
            refine w_ic ?_
            refine w_iret (fun _ => Or.inl rfl) ?_
            refine w_ifne (fun c9 => ?_) (fun c9 => ?_)
            · exfalso; omega
            · skip
              refine w_ic ?_
              exact w_iret (fun q => by cases q) (by have q := h _ hK0; unfold lr_shores at q; rw [if_neg (by omega)] at q; exact q)
          · skip
            refine w_ic ?_
            refine w_goto ?_
            refine w_iret (fun _ => Or.inr rfl) ?_
            refine w_ifne (fun c10 => ?_) (fun c10 => ?_)
            · skip
              refine w_aln rfl ?_
              refine w_cv (st := []) rfl gm rfl (Nat.le_of_ble_eq_true rfl) (fun kk h => h) (r_X12_thinksC (M0 := mj_p0 M m 0 0) (d := 37) gm gs gf m6 m45 (fun M2 t1 t2 t3 => ?_))
              have hM2 : rq_M s m bf M M2 := ⟨t1, fun a a1 a2 a3 => (t2 a a3).trans (wz_c a2), fun j _ => (congrFun (t2 s nbs.symm) j).trans (congrFun es j), fun k k0 _ _ _ _ => (congrFun (t2 m nbm.symm) k).trans (hn_n (Or.inr k0)), fun k hk => (t3 k hk).trans (congrFun es _)⟩
              have e26 : M2.2.2 m 6 = some s := by rw [hM2.1]; exact m6
              refine w_ic ?_
              refine w_is ?_
              refine w_ic ?_
              refine w_is ?_
              refine r_ysh (k := z1) (n := z2) (z := z3) (H := M.1 s) hL gf hH (by omega) (by omega) (by omega) (by omega) z2.toNat 0 M2 _ _ (by omega) hM2 (fun M3 cb sb hM3 => ?_)
              refine w_aln rfl ?_
              refine w_cv (st := []) rfl gm rfl (Nat.le_of_ble_eq_true rfl) (fun kk h => h) (r_X12_forgetsC (d := 37) gm gs gf (by rw [hM3.1]; exact m6) (by rw [hM3.1]; exact m45) (fun M4 f1 f2 f3 => ?_))
              have hK := hM3.end nbs sm.symm f1 f2 f3
              refine w_il rfl ?_
              refine w_iret (fun q => by cases q) ?_
              have q := h M4 hK
              unfold lr_shores at q
              rw [if_pos ⟨⟨by omega, by omega⟩, by omega, by omega⟩] at q
              exact q
            · exfalso; omega
end
section
/-! ===== leaks of the reference: s is told back (laid by a program) ===== -/
/-- before it thinks: all but m's own marks is as it was -/
def lk_A (m : Nat) (M M' : mj_M) : Prop := M'.2 = M.2 ∧ (∀ a, a ≠ m → M'.1 a = M.1 a) ∧ M'.1 m 32 = M.1 m 32 ∧ M'.1 m 3 = M.1 m 2
/-- while it thinks -/
def lk_B (G : mj_G) (m s bf rw_ : Nat) (M M' : mj_M) : Prop := ab_Inv G M' ∧ M'.2.2 m 6 = some s ∧ M'.2.2 m 45 = some bf ∧ M'.2.2 m 48 = some rw_ ∧ (∀ k, k < 135 → M'.1 bf k = M.1 s (221 + k)) ∧ (∀ j, j < 221 ∨ (356 ≤ j ∧ j < 537) → M'.1 s j = M.1 s j)
section LKS
variable {G : mj_G} {M M' M1 : mj_M} {m s bf rw_ : Nat} {Q : mj_P}
theorem lk_B.fr {W : List (Nat × Nat × Nat)} (h : lk_B G m s bf rw_ M M1) (gm : G m = (1012, 0)) (gs : G s = (51100, 537)) (gf : G bf = (64100, 135)) (I : ab_Inv G M') (f : ab_frm W G M1 M') (cW : ∀ q ∈ W, q.1 ≠ 64100 ∧ (q.1 ≠ 51100 ∨ (221 ≤ q.2.1 ∧ q.2.2 < 356)) ∧ (q.1 ≠ 1012 ∨ (29 ≤ q.2.1 ∧ q.2.2 ≤ 31))) : lk_B G m s bf rw_ M M' := by
  obtain ⟨-, h6, h45, h48, hb, hs⟩ := h
  have fm : ∀ k, k < 29 ∨ 31 < k → M'.2.2 m k = M1.2.2 m k := fun k hk => (f m k (by rw [gm]; rintro ⟨r, hr, e1, e2, e3⟩; have := (cW r hr).2.2; omega)).2
  exact ⟨I, (fm 6 (by decide)).trans h6, (fm 45 (by decide)).trans h45, (fm 48 (by decide)).trans h48, fun k hk => (f bf k (by rw [gf]; rintro ⟨r, hr, e1, e2, e3⟩; exact (cW r hr).1 e1)).1.trans (hb k hk), fun j hj => (f s j (by rw [gs]; rintro ⟨r, hr, e1, e2, e3⟩; have := (cW r hr).2.1; omega)).1.trans (hs j hj)⟩
theorem lk_B.pm (h : lk_B G m s bf rw_ M M1) (gm : G m = (1012, 0)) (gs : G s = (51100, 537)) (gf : G bf = (64100, 135)) {k : Nat} {v : Int} (hv : (ab_rg 1012 k).1 ≤ v ∧ v ≤ (ab_rg 1012 k).2) : lk_B G m s bf rw_ M (mj_p0 M1 m k v) := ⟨h.1.p0 (by rw [gm]; exact hv), h.2.1, h.2.2.1, h.2.2.2.1, fun j hj => (congrFun (wz_c (hn_ne gf gm (by decide))) j).trans (h.2.2.2.2.1 j hj), fun j hj => (congrFun (wz_c (hn_ne gs gm (by decide))) j).trans (h.2.2.2.2.2 j hj)⟩
theorem lk_B.pr (h : lk_B G m s bf rw_ M M1) (gr : G rw_ = (66100, 120)) (gs : G s = (51100, 537)) (gf : G bf = (64100, 135)) {k : Nat} {v : Int} (hv : (ab_rg 66100 k).1 ≤ v ∧ v ≤ (ab_rg 66100 k).2) : lk_B G m s bf rw_ M (mj_p0 M1 rw_ k v) := ⟨h.1.p0 (by rw [gr]; exact hv), h.2.1, h.2.2.1, h.2.2.2.1, fun j hj => (congrFun (wz_c (hn_ne gf gr (by decide))) j).trans (h.2.2.2.2.1 j hj), fun j hj => (congrFun (wz_c (hn_ne gs gr (by decide))) j).trans (h.2.2.2.2.2 j hj)⟩
theorem r_areLevels {dd : Nat} {z : Int} (hd : ab_h cd_155 ≤ dd) (hI : ab_Inv G M) (gm : G m = (1012, 0)) (hz : 0 ≤ z ∧ z ≤ 400) (hQ : ∀ z' M', ab_Inv G M' → ab_frm (ab_w cd_155) G M M' → Q (some (.inl z')) G M') : mj_R mj_tab (dd + 1) 160 [.inr (.inr (some m)), .inl z] G M Q := by
  refine ab_all_ok 223 (Nat.le_refl _) 164 (by decide) dd hd G M (1, hn_g [z], 1, fun _ => some m) _ Q (hn_Y1 hz) (lw_RR gm (by decide) (by decide) (by decide)) (fun e he => by cases he) ⟨_, _, rfl, ⟨Nat.zero_lt_one, rfl⟩, _, _, rfl, ⟨_, rfl, hn_I (Nat.le_of_ble_eq_true rfl) rfl⟩, rfl⟩ hI (fun r M' i f ⟨po, hpo, h⟩ => ?_)
  obtain ⟨z', rfl⟩ := lw_r (List.all_eq_true.mp (by decide +kernel : (ab_o cd_155).all (fun po => lw_ii po.1) = true) po hpo) h
  exact hQ z' M' i f
theorem lk_mul {a b : Int} (a0 : 0 ≤ a) (a1 : a ≤ 17) (b0 : 0 ≤ b) (b1 : b ≤ 12) : 0 ≤ a * b ∧ a * b ≤ 204 := by
  have h1 : 0 ≤ a * b := Int.mul_nonneg a0 b0
  have h2 : a * b ≤ 17 * 12 := Int.mul_le_mul a1 b1 b0 (by decide)
  exact ⟨h1, by omega⟩
theorem lk_mul2 {a b : Int} (a0 : 0 ≤ a) : b ≤ 0 ∨ a ≤ a * b := by
  by_cases h : b ≤ 0
  · exact Or.inl h
  · have q : a * 1 ≤ a * b := Int.mul_le_mul_of_nonneg_left (by omega) a0
    rw [Int.mul_one] at q
    exact Or.inr q
end LKS
theorem r_lk1 {G : mj_G} {M : mj_M} {m bt : Nat} {Q : mj_P} {n1 n2 : Int} (gm : G m = (1012, 0)) (gbt : G bt = (50101, 940)) (m1 : M.2.2 m 1 = some bt) (a1 : 1 ≤ n1) (a2 : n1 ≤ 17) (b1 : 1 ≤ n2) (b2 : n2 ≤ 12) (h0 : Q (some (.inl (-1))) G M) (h : ∀ cb sb, wz 39 mt_X12_leaks.2.2.2.2.1 Q (mt_X12_leaks.2.2.2.2.1.drop 71) [some (.inr (.inr (some m))), some (.inl n1), some (.inl n2), some (.inl n2), none, none, none] [] G M cb sb) : ∀ (f : Nat) (i : Int) (cb sb : Nat), i + f = n2 → 0 ≤ i → wz 39 mt_X12_leaks.2.2.2.2.1 Q (mt_X12_leaks.2.2.2.2.1.drop 42) [some (.inr (.inr (some m))), some (.inl n1), some (.inl n2), some (.inl i), none, none, none] [] G M cb sb := by
  intro f
  induction f with
  | zero =>
    intro i cb sb e i0
    obtain rfl : n2 = i := by omega
    refine w_iln rfl ?_
    refine w_iln rfl ?_
    refine w_cmge (fun c1 => ?_) (fun c1 => ?_)
    · skip
      exact h _ _
    · exfalso; omega
  | succ f ih =>
    intro i cb sb e i0
    refine w_iln rfl ?_
    refine w_iln rfl ?_
    refine w_cmge (fun c1 => ?_) (fun c1 => ?_)
    · exfalso; omega
    · skip
      refine w_aln rfl ?_
      refine w_iln rfl ?_
      refine w_iln rfl ?_
      have hq2 : 0 ≤ n1 * i ∧ n1 * i ≤ 204 := lk_mul (by omega) (by omega) (by omega) (by omega)
      have hq2b := lk_mul2 (a := n1) (b := i) (by omega)
      refine w_mul ⟨by show (-2147483648 : Int) ≤ n1 * i; omega, by show n1 * i < (2147483648 : Int); omega⟩ ?_
      refine w_cv (st := []) rfl gm rfl (Nat.le_of_ble_eq_true rfl) (fun kk h => h) ⟨Nat.le_of_ble_eq_true rfl, ?_⟩
      show wz (38) mt_X12_octet.2.2.2.2.1 _ mt_X12_octet.2.2.2.2.1 [some (.inr (.inr (some m))), some (.inl (n1 * i))] [] _ _ _ _
      refine w_aln rfl ?_
      refine w_gr gm rfl (by decide) rfl (m1) ?_
      refine w_iln rfl ?_
      refine w_bald (v := (M.1 bt (n1 * i).toNat)) gbt rfl (by show (0 : Int) ≤ n1 * i; omega) (by show n1 * i < ((940 : Nat) : Int); omega) (rfl) ?_
      refine w_sp ?_
      refine w_and ?_
      intro z3 hz3 ez3
      refine w_iret (fun q => by cases q) ?_
      refine w_cs (st := []) rfl (Nat.le_of_ble_eq_true rfl) (fun kk h => h) ⟨Nat.le_of_ble_eq_true rfl, ?_⟩
      show wz (38) mt_X12_isMonth.2.2.2.2.1 _ mt_X12_isMonth.2.2.2.2.1 [some (.inl z3)] [] _ _ _ _
      refine w_iln rfl ?_
      refine w_ic ?_
      refine w_bp ?_
      refine w_cs (st := []) rfl (Nat.le_of_ble_eq_true rfl) (fun kk h => h) ⟨Nat.le_of_ble_eq_true rfl, ?_⟩
      show wz (37) mt_X12_isIn.2.2.2.2.1 _ mt_X12_isIn.2.2.2.2.1 [some (.inl z3), some (.inl 0), some (.inl 11)] [] _ _ _ _
      refine w_iln rfl ?_
      refine w_iln rfl ?_
      refine w_cmlt (fun c4 => ?_) (fun c4 => ?_)
      · skip
        refine w_ic ?_
        refine w_iret (fun _ => Or.inl rfl) ?_
        refine w_iret (fun _ => Or.inl rfl) ?_
        refine w_ifeq (fun c5 => ?_) (fun c5 => ?_)
        · skip
          refine w_ic ?_
          exact w_iret (fun q => by cases q) h0
        · exfalso; omega
      · skip
        refine w_iln rfl ?_
        refine w_iln rfl ?_
        refine w_cmgt (fun c6 => ?_) (fun c6 => ?_)
        · skip
          refine w_ic ?_
          refine w_iret (fun _ => Or.inl rfl) ?_
          refine w_iret (fun _ => Or.inl rfl) ?_
          refine w_ifeq (fun c7 => ?_) (fun c7 => ?_)
          · skip
            refine w_ic ?_
            exact w_iret (fun q => by cases q) h0
          · exfalso; omega
        · skip
          refine w_ic ?_
          refine w_goto ?_
          refine w_iret (fun _ => Or.inr rfl) ?_
          refine w_iret (fun _ => Or.inr rfl) ?_
          refine w_ifeq (fun c8 => ?_) (fun c8 => ?_)
          · exfalso; omega
          · skip
            refine w_iln rfl ?_
            refine w_ifle (fun c9 => ?_) (fun c9 => ?_)
            · skip
              refine w_ii rfl ⟨by show (-2147483648 : Int) ≤ i + 1; omega, by show i + 1 < (2147483648 : Int); omega⟩ ?_
              show wz _ _ _ _ [some (.inr (.inr (some m))), some (.inl n1), some (.inl n2), some (.inl (i + 1)), none, none, none] _ _ _ _ _
              refine w_goto ?_
              exact ih (i + 1) _ _ (by omega) (by omega)
            · skip
              refine w_aln rfl ?_
              refine w_iln rfl ?_
              refine w_iln rfl ?_
              have hq10 : 0 ≤ n1 * i ∧ n1 * i ≤ 204 := lk_mul (by omega) (by omega) (by omega) (by omega)
              have hq10b := lk_mul2 (a := n1) (b := i) (by omega)
              refine w_mul ⟨by show (-2147483648 : Int) ≤ n1 * i; omega, by show n1 * i < (2147483648 : Int); omega⟩ ?_
              refine w_cv (st := []) rfl gm rfl (Nat.le_of_ble_eq_true rfl) (fun kk h => h) ⟨Nat.le_of_ble_eq_true rfl, ?_⟩
              show wz (38) mt_X12_octet.2.2.2.2.1 _ mt_X12_octet.2.2.2.2.1 [some (.inr (.inr (some m))), some (.inl (n1 * i))] [] _ _ _ _
              refine w_aln rfl ?_
              refine w_gr gm rfl (by decide) rfl (m1) ?_
              refine w_iln rfl ?_
              refine w_bald (v := (M.1 bt (n1 * i).toNat)) gbt rfl (by show (0 : Int) ≤ n1 * i; omega) (by show n1 * i < ((940 : Nat) : Int); omega) (rfl) ?_
              refine w_sp ?_
              refine w_and ?_
              intro z11 hz11 ez11
              refine w_iret (fun q => by cases q) ?_
              refine w_aln rfl ?_
              refine w_iln rfl ?_
              refine w_iln rfl ?_
              have hq12 : 0 ≤ n1 * i ∧ n1 * i ≤ 204 := lk_mul (by omega) (by omega) (by omega) (by omega)
              have hq12b := lk_mul2 (a := n1) (b := i) (by omega)
              refine w_mul ⟨by show (-2147483648 : Int) ≤ n1 * i; omega, by show n1 * i < (2147483648 : Int); omega⟩ ?_
              refine w_iln rfl ?_
              refine w_sub ⟨by show (-2147483648 : Int) ≤ (n1 * i) - n1; omega, by show (n1 * i) - n1 < (2147483648 : Int); omega⟩ ?_
              refine w_cv (st := [.inl z11]) rfl gm rfl (Nat.le_of_ble_eq_true rfl) (fun kk h => h) ⟨Nat.le_of_ble_eq_true rfl, ?_⟩
              show wz (38) mt_X12_octet.2.2.2.2.1 _ mt_X12_octet.2.2.2.2.1 [some (.inr (.inr (some m))), some (.inl ((n1 * i) - n1))] [] _ _ _ _
              refine w_aln rfl ?_
              refine w_gr gm rfl (by decide) rfl (m1) ?_
              refine w_iln rfl ?_
              refine w_bald (v := (M.1 bt ((n1 * i) - n1).toNat)) gbt rfl (by show (0 : Int) ≤ (n1 * i) - n1; omega) (by show (n1 * i) - n1 < ((940 : Nat) : Int); omega) (rfl) ?_
              refine w_sp ?_
              refine w_and ?_
              intro z13 hz13 ez13
              refine w_iret (fun q => by cases q) ?_
              refine w_cmgt (fun c14 => ?_) (fun c14 => ?_)
              · skip
                refine w_ii rfl ⟨by show (-2147483648 : Int) ≤ i + 1; omega, by show i + 1 < (2147483648 : Int); omega⟩ ?_
                show wz _ _ _ _ [some (.inr (.inr (some m))), some (.inl n1), some (.inl n2), some (.inl (i + 1)), none, none, none] _ _ _ _ _
                refine w_goto ?_
                exact ih (i + 1) _ _ (by omega) (by omega)
              · skip
                refine w_ic ?_
                exact w_iret (fun q => by cases q) h0
theorem r_lk4 {G : mj_G} {M0 : mj_M} {m s bf rw_ : Nat} {Q : mj_P} {n1 n2 : Int} {H0 : Int} (gm : G m = (1012, 0)) (gs : G s = (51100, 537)) (gf : G bf = (64100, 135)) (gr : G rw_ = (66100, 120)) (e0 : M0.1 s 0 = H0) (b0 : 0 ≤ H0 ∧ H0 ≤ 8) (n20 : 0 ≤ n2 ∧ n2 ≤ 400) {t k : Int} (t0 : 0 ≤ t) (t1 : t < H0) (k0 : 0 ≤ k) (k1 : k ≤ 11) : ∀ (f : Nat) (j c : Int) (M : mj_M) (cb sb : Nat), j + f = 10 → 1 ≤ j → 0 ≤ c → c + 9 ≤ 900 + j → lk_B G m s bf rw_ M0 M → (∀ c' M' j' cb sb, c ≤ c' → c' + j ≤ c + 10 → lk_B G m s bf rw_ M0 M' → wz 39 mt_X12_leaks.2.2.2.2.1 Q (mt_X12_leaks.2.2.2.2.1.drop 152) [some (.inr (.inr (some m))), some (.inl n1), some (.inl n2), some (.inl c'), some (.inl t), some (.inl k), j'] [] G M' cb sb) → wz 39 mt_X12_leaks.2.2.2.2.1 Q (mt_X12_leaks.2.2.2.2.1.drop 93) [some (.inr (.inr (some m))), some (.inl n1), some (.inl n2), some (.inl c), some (.inl t), some (.inl k), some (.inl j)] [] G M cb sb := by
  intro f
  induction f with
  | zero =>
    intro j c M cb sb e j0 c0 c1 hB h
    refine w_il rfl ?_
    refine w_bp ?_
    refine w_cmge (fun q => ?_) (fun q => by exfalso; omega)
    exact h c M _ _ _ (Int.le_refl c) (by omega) hB
  | succ f ih =>
    intro j c M cb sb e j0 c0 c1 hB h
    refine w_il rfl ?_
    refine w_bp ?_
    refine w_cmge (fun q => by exfalso; omega) (fun q => ?_)
    have h1 := hB.pm (k := 32) (v := t) gm gs gf ⟨by show (-2147483648 : Int) ≤ t; omega, by show t ≤ (2147483647 : Int); omega⟩
    have h2 := h1.pm (k := 33) (v := k) gm gs gf ⟨by show (-2147483648 : Int) ≤ k; omega, by show k ≤ (2147483647 : Int); omega⟩
    have h3 := h2.pm (k := 34) (v := j) gm gs gf ⟨by show (-2147483648 : Int) ≤ j; omega, by show j ≤ (2147483647 : Int); omega⟩
    refine w_aln rfl ?_
    refine w_il rfl ?_
    refine w_pi gm rfl (by decide) rfl (fun q => by cases q) ?_
    refine w_aln rfl ?_
    refine w_il rfl ?_
    refine w_pi gm rfl (by decide) rfl (fun q => by cases q) ?_
    refine w_aln rfl ?_
    refine w_il rfl ?_
    refine w_pi gm rfl (by decide) rfl (fun q => by cases q) ?_
    refine w_aln rfl ?_
    refine w_iln rfl ?_
    refine w_cv (st := []) rfl gm rfl (Nat.le_of_ble_eq_true rfl) (fun kk h => h) (r_areLevels (dd := 38) (by decide +kernel) h3.1 gm n20 (fun z1 M1 I1 f1 => ?_))
    have h4 := h3.fr gm gs gf I1 f1 (by decide +kernel)
    have next : ∀ (c' : Int) (M' : mj_M) (cb sb : Nat), c ≤ c' → c' ≤ c + 1 → lk_B G m s bf rw_ M0 M' → wz 39 mt_X12_leaks.2.2.2.2.1 Q (mt_X12_leaks.2.2.2.2.1.drop 150) [some (.inr (.inr (some m))), some (.inl n1), some (.inl n2), some (.inl c'), some (.inl t), some (.inl k), some (.inl j)] [] G M' cb sb := fun c' M' cb sb q1 q2 hB' => by
      refine w_ii rfl ⟨by omega, by omega⟩ ?_
      refine w_goto ?_
      exact ih (j + 1) c' M' _ _ (by omega) (by omega) (by omega) (by omega) hB' (fun c2 M2 j2 cb sb g1 g2 g3 => h c2 M2 j2 cb sb (by omega) (by omega) g3)
    refine w_ifne (fun q1 => ?_) (fun q1 => ?_)
    · refine w_ii rfl ⟨by omega, by omega⟩ ?_
      have r49 : 0 ≤ M1.1 m 49 ∧ M1.1 m 49 ≤ 40 := by have q := h4.1.1 m 49; rw [gm] at q; exact q
      refine w_aln rfl ?_
      refine w_gi (v := M1.1 m 49) gm rfl (by decide) rfl rfl ?_
      refine w_bp ?_
      refine w_cmne (fun q2 => ?_) (fun q2 => ?_)
      · generalize ev : M1.1 m 49 = v49 at r49 q2
        refine w_aln rfl ?_
        refine w_gr gm rfl (by decide) rfl h4.2.2.2.1 ?_
        refine w_ic ?_
        refine w_aln rfl ?_
        refine w_gi gm rfl (by decide) rfl ev ?_
        refine w_mul ⟨by omega, by omega⟩ ?_
        refine w_il rfl ?_
        refine w_iast gr rfl (by decide) (by omega) (by show 3 * v49 < ((120 : Nat) : Int); omega) ?_
        have h5 := h4.pr (k := (3 * v49).toNat) (v := t) gr gs gf ⟨by show (-2147483648 : Int) ≤ t; omega, by show t ≤ (2147483647 : Int); omega⟩
        have nrm : m ≠ rw_ := hn_ne gm gr (by decide)
        refine w_aln rfl ?_
        refine w_gr gm rfl (by decide) rfl h5.2.2.2.1 ?_
        refine w_ic ?_
        refine w_aln rfl ?_
        refine w_gi gm rfl (by decide) rfl ((congrFun (wz_c nrm) 49).trans ev) ?_
        refine w_mul ⟨by omega, by omega⟩ ?_
        refine w_ic ?_
        refine w_add ⟨by omega, by omega⟩ ?_
        refine w_il rfl ?_
        refine w_iast gr rfl (by decide) (by omega) (by show 3 * v49 + 1 < ((120 : Nat) : Int); omega) ?_
        have h6 := h5.pr (k := (3 * v49 + 1).toNat) (v := k) gr gs gf ⟨by show (-2147483648 : Int) ≤ k; omega, by show k ≤ (2147483647 : Int); omega⟩
        refine w_aln rfl ?_
        refine w_gr gm rfl (by decide) rfl h6.2.2.2.1 ?_
        refine w_ic ?_
        refine w_aln rfl ?_
        refine w_gi gm rfl (by decide) rfl ((congrFun (wz_c nrm) 49).trans ((congrFun (wz_c nrm) 49).trans ev)) ?_
        refine w_mul ⟨by omega, by omega⟩ ?_
        refine w_ic ?_
        refine w_add ⟨by omega, by omega⟩ ?_
        refine w_il rfl ?_
        refine w_iast gr rfl (by decide) (by omega) (by show 3 * v49 + 2 < ((120 : Nat) : Int); omega) ?_
        have h7 := h6.pr (k := (3 * v49 + 2).toNat) (v := j) gr gs gf ⟨by show (-2147483648 : Int) ≤ j; omega, by show j ≤ (2147483647 : Int); omega⟩
        refine w_aln rfl ?_
        refine w_dupr ?_
        refine w_gi gm rfl (by decide) rfl ((congrFun (wz_c nrm) 49).trans ((congrFun (wz_c nrm) 49).trans ((congrFun (wz_c nrm) 49).trans ev))) ?_
        refine w_ic ?_
        refine w_add ⟨by omega, by omega⟩ ?_
        refine w_pi gm rfl (by decide) rfl (fun q => by cases q) ?_
        exact next (c + 1) _ _ _ (by omega) (by omega) (h7.pm (k := 49) (v := v49 + 1) gm gs gf ⟨by show (0 : Int) ≤ v49 + 1; omega, by show v49 + 1 ≤ (40 : Int); omega⟩)
      · refine w_goto ?_
        exact next (c + 1) M1 _ _ (by omega) (by omega) h4
    · refine w_goto ?_
      exact next c M1 _ _ (by omega) (by omega) h4
theorem r_lk3 {G : mj_G} {M0 : mj_M} {m s bf rw_ : Nat} {Q : mj_P} {n1 n2 : Int} {H0 : Int} (gm : G m = (1012, 0)) (gs : G s = (51100, 537)) (gf : G bf = (64100, 135)) (gr : G rw_ = (66100, 120)) (e0 : M0.1 s 0 = H0) (b0 : 0 ≤ H0 ∧ H0 ≤ 8) (n20 : 0 ≤ n2 ∧ n2 ≤ 400) {t : Int} (t0 : 0 ≤ t) (t1 : t < H0) : ∀ (f : Nat) (k c : Int) (M : mj_M) (v6 : Option mj_V) (cb sb : Nat), k + f = 12 → 0 ≤ k → 0 ≤ c → c ≤ 108 * t + 9 * k → lk_B G m s bf rw_ M0 M → (∀ c' M' v5 v6 cb sb, 0 ≤ c' → c' ≤ 108 * t + 108 → lk_B G m s bf rw_ M0 M' → wz 39 mt_X12_leaks.2.2.2.2.1 Q (mt_X12_leaks.2.2.2.2.1.drop 154) [some (.inr (.inr (some m))), some (.inl n1), some (.inl n2), some (.inl c'), some (.inl t), v5, v6] [] G M' cb sb) → wz 39 mt_X12_leaks.2.2.2.2.1 Q (mt_X12_leaks.2.2.2.2.1.drop 88) [some (.inr (.inr (some m))), some (.inl n1), some (.inl n2), some (.inl c), some (.inl t), some (.inl k), v6] [] G M cb sb := by
  intro f
  induction f with
  | zero =>
    intro k c M v6 cb sb e k0 c0 c1 hB h
    refine w_il rfl ?_
    refine w_bp ?_
    refine w_cmge (fun q => ?_) (fun q => by exfalso; omega)
    exact h c M _ _ _ _ c0 (by omega) hB
  | succ f ih =>
    intro k c M v6 cb sb e k0 c0 c1 hB h
    refine w_il rfl ?_
    refine w_bp ?_
    refine w_cmge (fun q => by exfalso; omega) (fun q => ?_)
    refine w_ic ?_
    refine w_is ?_
    refine r_lk4 gm gs gf gr e0 b0 n20 t0 t1 k0 (by omega) 9 1 c M _ _ (by decide) (by decide) c0 (by omega) hB (fun c' M' j' cb sb g1 g2 hB' => ?_)
    refine w_ii rfl ⟨by omega, by omega⟩ ?_
    refine w_goto ?_
    exact ih (k + 1) c' M' _ _ _ (by omega) (by omega) (by omega) (by omega) hB' h
theorem r_lk2 {G : mj_G} {M0 : mj_M} {m s bf rw_ : Nat} {Q : mj_P} {n1 n2 : Int} {H0 : Int} (gm : G m = (1012, 0)) (gs : G s = (51100, 537)) (gf : G bf = (64100, 135)) (gr : G rw_ = (66100, 120)) (e0 : M0.1 s 0 = H0) (b0 : 0 ≤ H0 ∧ H0 ≤ 8) (n20 : 0 ≤ n2 ∧ n2 ≤ 400) (m6 : M0.2.2 m 6 = some s) : ∀ (f : Nat) (t c : Int) (M : mj_M) (v5 v6 : Option mj_V) (cb sb : Nat), t + f = H0 → 0 ≤ t → 0 ≤ c → c ≤ 108 * t → lk_B G m s bf rw_ M0 M → (∀ c' M' v4 v5 v6 cb sb, lk_B G m s bf rw_ M0 M' → wz 39 mt_X12_leaks.2.2.2.2.1 Q (mt_X12_leaks.2.2.2.2.1.drop 156) [some (.inr (.inr (some m))), some (.inl n1), some (.inl n2), some (.inl c'), v4, v5, v6] [] G M' cb sb) → wz 39 mt_X12_leaks.2.2.2.2.1 Q (mt_X12_leaks.2.2.2.2.1.drop 80) [some (.inr (.inr (some m))), some (.inl n1), some (.inl n2), some (.inl c), some (.inl t), v5, v6] [] G M cb sb := by
  intro f
  induction f with
  | zero =>
    intro t c M v5 v6 cb sb e t0 c0 c1 hB h
    refine w_il rfl ?_
    refine w_aln rfl ?_
    refine w_gr gm rfl (by decide) rfl hB.2.1 ?_
    refine w_ic ?_
    refine w_iald (v := H0) gs rfl (by decide) (by decide) ((hB.2.2.2.2.2 0 (Or.inl (by decide))).trans e0) ?_
    refine w_cmge (fun q => ?_) (fun q => by exfalso; omega)
    exact h c M _ _ _ _ _ hB
  | succ f ih =>
    intro t c M v5 v6 cb sb e t0 c0 c1 hB h
    refine w_il rfl ?_
    refine w_aln rfl ?_
    refine w_gr gm rfl (by decide) rfl hB.2.1 ?_
    refine w_ic ?_
    refine w_iald (v := H0) gs rfl (by decide) (by decide) ((hB.2.2.2.2.2 0 (Or.inl (by decide))).trans e0) ?_
    refine w_cmge (fun q => by exfalso; omega) (fun q => ?_)
    refine w_ic ?_
    refine w_is ?_
    refine r_lk3 gm gs gf gr e0 b0 n20 t0 (by omega) 12 0 c M v6 _ _ (by decide) (by decide) c0 (by omega) hB (fun c' M' v5 v6 cb sb g1 g2 hB' => ?_)
    refine w_ii rfl ⟨by omega, by omega⟩ ?_
    refine w_goto ?_
    exact ih (t + 1) c' M' _ _ _ _ (by omega) (by omega) g1 (by omega) hB' h
set_option maxRecDepth 100000 in
theorem r_X12_leaksY {G : mj_G} {M : mj_M} {m s : Nat} {Q : mj_P} (hI : ab_Inv G M) (gm : G m = (1012, 0)) (gs : G s = (51100, 537)) (m6 : M.2.2 m 6 = some s) (b0 : 0 ≤ M.1 s 0 ∧ M.1 s 0 ≤ 8) (h32 : M.1 m 32 = -1) (h : ∀ z M', (∀ j, j < 537 → M'.1 s j = M.1 s j) → M'.1 m 32 = -1 → Q (some (.inl z)) G M') : mj_R mj_tab 40 210 [.inr (.inr (some m))] G M Q := by
  obtain ⟨bt, m1, gbt⟩ := hn_rf (k := 1) (q := (50101, 940)) hI gm rfl (by decide) (by decide) (by decide) (fun e => absurd e (by decide))
  obtain ⟨bf, m45, gf⟩ := hn_rf (k := 45) (q := (64100, 135)) hI gm rfl (by decide) (by decide) (by decide) (fun e => absurd e (by decide))
  obtain ⟨rw_, m48, gr⟩ := hn_rf (k := 48) (q := (66100, 120)) hI gm rfl (by decide) (by decide) (by decide) (fun e => absurd e (by decide))
  have sm : s ≠ m := hn_ne gs gm (by decide)
  have nbs : bf ≠ s := hn_ne gf gs (by decide)
  have nbm : bf ≠ m := hn_ne gf gm (by decide)
  have r2 : 0 ≤ M.1 m 2 ∧ M.1 m 2 ≤ 940 := by have q := hI.1 m 2; rw [gm] at q; exact q
  refine ⟨Nat.le_of_ble_eq_true rfl, ?_⟩
  show wz 39 mt_X12_leaks.2.2.2.2.1 Q mt_X12_leaks.2.2.2.2.1 [some (.inr (.inr (some m))), none, none, none, none, none, none] [] G M _ _
  refine w_aln rfl ?_
  refine w_ic ?_
  refine w_pi gm rfl (by decide) rfl (fun q => by cases q) ?_
  refine w_aln rfl ?_
  refine w_sp ?_
  refine w_cv (st := []) rfl gm rfl (Nat.le_of_ble_eq_true rfl) (fun kk h => h) ⟨Nat.le_of_ble_eq_true rfl, ?_⟩
  show wz 38 mt_X12_taken.2.2.2.2.1 _ mt_X12_taken.2.2.2.2.1 [some (.inr (.inr (some m))), some (.inl 940)] [] _ _ _ _
  refine w_aln rfl ?_
  refine w_aln rfl ?_
  refine w_gi gm rfl (by decide) rfl (v := M.1 m 2) (hn_n (Or.inr (by decide))) ?_
  refine w_pi gm rfl (by decide) rfl (fun q => by cases q) ?_
  refine w_aln rfl ?_
  refine w_ic ?_
  refine w_pi gm rfl (by decide) rfl (fun q => by cases q) ?_
  refine w_aln rfl ?_
  refine w_ic ?_
  refine w_pi gm rfl (by decide) rfl (fun q => by cases q) ?_
  refine w_aln rfl ?_
  refine w_iln rfl ?_
  refine w_pi gm rfl (by decide) rfl (fun q => by cases q) ?_
  refine w_ret ?_
  show wz 39 mt_X12_leaks.2.2.2.2.1 Q (mt_X12_leaks.2.2.2.2.1.drop 6) [some (.inr (.inr (some m))), none, none, none, none, none, none] [] G (mj_p0 (mj_p0 (mj_p0 (mj_p0 (mj_p0 M m 0 0) m 3 (M.1 m 2)) m 2 0) m 4 0) m 5 940) _ _
  have hA : lk_A m M (mj_p0 (mj_p0 (mj_p0 (mj_p0 (mj_p0 M m 0 0) m 3 (M.1 m 2)) m 2 0) m 4 0) m 5 940) := ⟨rfl, fun a ha => (wz_c ha).trans ((wz_c ha).trans ((wz_c ha).trans ((wz_c ha).trans (wz_c ha)))), (hn_n (Or.inr (by decide))).trans ((hn_n (Or.inr (by decide))).trans ((hn_n (Or.inr (by decide))).trans ((hn_n (Or.inr (by decide))).trans (hn_n (Or.inr (by decide)))))), (hn_n (Or.inr (by decide))).trans ((hn_n (Or.inr (by decide))).trans ((hn_n (Or.inr (by decide))).trans hn_s))⟩
  have hIA : ab_Inv G (mj_p0 (mj_p0 (mj_p0 (mj_p0 (mj_p0 M m 0 0) m 3 (M.1 m 2)) m 2 0) m 4 0) m 5 940) := ((((hI.p0 (by rw [gm]; exact ⟨by decide, by decide⟩)).p0 (by rw [gm]; exact r2)).p0 (by rw [gm]; exact ⟨by decide, by decide⟩)).p0 (by rw [gm]; exact ⟨by decide, by decide⟩)).p0 (by rw [gm]; exact ⟨by decide, by decide⟩)
  revert hA hIA
  generalize mj_p0 (mj_p0 (mj_p0 (mj_p0 (mj_p0 M m 0 0) m 3 (M.1 m 2)) m 2 0) m 4 0) m 5 940 = MA
  intro hA hIA
  have esA : MA.1 s = M.1 s := hA.2.1 s sm
  have none_ : Q (some (.inl (-1))) G MA := h _ _ (fun j _ => congrFun esA j) (hA.2.2.1.trans h32)
  refine w_ic ?_
  refine w_ic ?_
  refine w_aln rfl ?_
  refine w_gr gm rfl (by decide) rfl ((by rw [hA.1]; exact m6)) ?_
  refine w_ic ?_
  refine w_iald (v := (M.1 s 0)) gs rfl (by show (0 : Int) ≤ 0; omega) (by show 0 < ((537 : Nat) : Int); omega) (congrFun esA _) ?_
  refine w_mul ⟨by show (-2147483648 : Int) ≤ 2 * (M.1 s 0); omega, by show 2 * (M.1 s 0) < (2147483648 : Int); omega⟩ ?_
  refine w_add ⟨by show (-2147483648 : Int) ≤ 1 + (2 * (M.1 s 0)); omega, by show 1 + (2 * (M.1 s 0)) < (2147483648 : Int); omega⟩ ?_
  refine w_isn ?_
  show wz _ _ _ _ [some (.inr (.inr (some m))), some (.inl (1 + (2 * (M.1 s 0)))), none, none, none, none, none] _ _ _ _ _
  refine w_aln rfl ?_
  refine w_gr gm rfl (by decide) rfl ((by rw [hA.1]; exact m6)) ?_
  refine w_ic ?_
  refine w_iald (v := (M.1 s 0)) gs rfl (by show (0 : Int) ≤ 0; omega) (by show 0 < ((537 : Nat) : Int); omega) (congrFun esA _) ?_
  refine w_ifeq (fun c1 => ?_) (fun c1 => ?_)
  · skip
    refine w_ic ?_
    exact w_iret (fun q => by cases q) none_
  · skip
    refine w_aln rfl ?_
    refine w_gi gm rfl (by decide) rfl (hA.2.2.2) ?_
    refine w_iln rfl ?_
    refine w_rem (by omega) ?_
    intro z2 hz2 ez2
    refine w_ifne (fun c3 => ?_) (fun c3 => ?_)
    · skip
      refine w_ic ?_
      exact w_iret (fun q => by cases q) none_
    · skip
      refine w_aln rfl ?_
      refine w_gi gm rfl (by decide) rfl (hA.2.2.2) ?_
      refine w_iln rfl ?_
      refine w_div (by omega) ?_
      intro z4 hz4 ez4
      refine w_ic ?_
      refine w_bp ?_
      refine w_cs (st := []) rfl (Nat.le_of_ble_eq_true rfl) (fun kk h => h) ⟨Nat.le_of_ble_eq_true rfl, ?_⟩
      show wz (38) mt_X12_isIn.2.2.2.2.1 _ mt_X12_isIn.2.2.2.2.1 [some (.inl z4), some (.inl 1), some (.inl 12)] [] _ _ _ _
      refine w_iln rfl ?_
      refine w_iln rfl ?_
      refine w_cmlt (fun c5 => ?_) (fun c5 => ?_)
      · skip
        refine w_ic ?_
        refine w_iret (fun _ => Or.inl rfl) ?_
        refine w_ifne (fun c6 => ?_) (fun c6 => ?_)
        · exfalso; omega
        · skip
          refine w_ic ?_
          exact w_iret (fun q => by cases q) none_
      · skip
        refine w_iln rfl ?_
        refine w_iln rfl ?_
        refine w_cmgt (fun c7 => ?_) (fun c7 => ?_)
        · skip
          refine w_ic ?_
          refine w_iret (fun _ => Or.inl rfl) ?_
          refine w_ifne (fun c8 => ?_) (fun c8 => ?_)
          · exfalso; omega
          · skip
            refine w_ic ?_
            exact w_iret (fun q => by cases q) none_
        · skip
          refine w_ic ?_
          refine w_goto ?_
          refine w_iret (fun _ => Or.inr rfl) ?_
          refine w_ifne (fun c9 => ?_) (fun c9 => ?_)
          · skip
            refine w_aln rfl ?_
            refine w_gi gm rfl (by decide) rfl (hA.2.2.2) ?_
            refine w_iln rfl ?_
            refine w_div (by omega) ?_
            intro z10 hz10 ez10
            refine w_isn ?_
            show wz _ _ _ _ [some (.inr (.inr (some m))), some (.inl (1 + (2 * (M.1 s 0)))), some (.inl z10), none, none, none, none] _ _ _ _ _
            refine w_ic ?_
            refine w_isn ?_
            show wz _ _ _ _ [some (.inr (.inr (some m))), some (.inl (1 + (2 * (M.1 s 0)))), some (.inl z10), some (.inl 0), none, none, none] _ _ _ _ _
            have e9 : z10 = z4 := ez10.trans ez4.symm
            refine r_lk1 (n1 := 1 + (2 * (M.1 s 0))) (n2 := z10) gm gbt (by rw [hA.1]; exact m1) (by omega) (by omega) (by omega) (by omega) none_ (fun cb sb => ?_) (z10).toNat 0 _ _ (by omega) (by decide)
            refine w_aln rfl ?_
            refine w_cv (st := []) rfl gm rfl (Nat.le_of_ble_eq_true rfl) (fun kk h => h) (sn_and (by decide +kernel) (r_thinks (Q := fun r G' M' => r = none ∧ G' = G ∧ ab_Inv G M') (dd := 38) (by decide +kernel) hIA gm (fun M2 I2 f2 => ⟨rfl, rfl, I2⟩)) (r_X12_thinksC (Q := fun r G' M' => M'.2 = MA.2 ∧ (∀ a, a ≠ bf → M'.1 a = MA.1 a) ∧ ∀ k, k < 135 → M'.1 bf k = MA.1 s (221 + k)) (M0 := MA) (d := 37) gm gs gf (by rw [hA.1]; exact m6) (by rw [hA.1]; exact m45) (fun M2 t1 t2 t3 => ⟨t1, t2, t3⟩)) (fun r G' M2 q1 q2 => ?_))
            obtain ⟨rfl, rfl, I2⟩ := q1
            obtain ⟨t1, t2, t3⟩ := q2
            have hB : lk_B G' m s bf rw_ M M2 := ⟨I2, by rw [t1, hA.1]; exact m6, by rw [t1, hA.1]; exact m45, by rw [t1, hA.1]; exact m48, fun k hk => (t3 k hk).trans (congrFun esA _), fun j _ => (congrFun (t2 s nbs.symm) j).trans (congrFun esA j)⟩
            refine w_ic ?_
            refine w_isn ?_
            refine w_aln rfl ?_
            refine w_ic ?_
            refine w_pi gm rfl (by decide) rfl (fun q => by cases q) ?_
            refine w_ic ?_
            refine w_is ?_
            refine r_lk2 (H0 := M.1 s 0) gm gs gf gr rfl b0 ⟨by omega, by omega⟩ m6 (M.1 s 0).toNat 0 0 _ _ _ _ _ (by omega) (by decide) (by decide) (by decide) (hB.pm (k := 49) (v := 0) gm gs gf ⟨by decide, by decide⟩) (fun c' M3 v4 v5 v6 cb sb h3 => ?_)
            refine w_aln rfl ?_
            refine w_ic ?_
            refine w_pi gm rfl (by decide) rfl (fun q => by cases q) ?_
            have h4 := h3.pm (k := 32) (v := -1) gm gs gf ⟨by decide, by decide⟩
            refine w_aln rfl ?_
            refine w_cv (st := []) rfl gm rfl (Nat.le_of_ble_eq_true rfl) (fun kk h => h) (r_X12_forgetsC (M0 := mj_p0 M3 m 32 (-1)) (d := 37) gm gs gf h4.2.1 h4.2.2.1 (fun M4 f1 f2 f3 => ?_))
            refine w_iln rfl ?_
            refine w_iret (fun q => by cases q) (h c' M4 (fun j hj => ?_) ((congrFun (f2 m sm.symm) 32).trans hn_s))
            by_cases c : 221 ≤ j ∧ j < 356
            · rw [(f3 j hj).1 c, h4.2.2.2.2.1 (j - 221) (by omega), show 221 + (j - 221) = j by omega]
            · rw [(f3 j hj).2 (by omega)]; exact h4.2.2.2.2.2 j (by omega)
          · exfalso; omega
end
