/-! ===== trial YEARS of the reference (laid by a program) ===== -/
theorem r_thk {G : mj_G} {M0 : mj_M} {s m bf : Nat} {Q : mj_P} {d : Nat} (gm : G m = (1012, 0)) (gs : G s = (51100, 537)) (gb : G bf = (64100, 135)) (m6 : M0.2.2 m 6 = some s) (m45 : M0.2.2 m 45 = some bf) : ∀ (n : Nat) (i : Int) (BF : Nat → Int) (M : mj_M) (cb sb : Nat), i + n = 135 → 0 ≤ i → tk_R bf M0 BF M → (∀ k : Nat, k < 135 → (k : Int) < i → BF k = M0.1 s (221 + k)) → (∀ M, M.2 = M0.2 → (∀ a, a ≠ bf → M.1 a = M0.1 a) → (∀ k, k < 135 → M.1 bf k = M0.1 s (221 + k)) → Q none G M) → wz (d + 1) mt_X12_thinks.2.2.2.2.1 Q (mt_X12_thinks.2.2.2.2.1.drop 2) [some (.inr (.inr (some m))), some (.inl i)] [] G M cb sb := by
  have nsb : s ≠ bf := hn_ne gs gb (by decide)
  intro n
  induction n with
  | zero =>
    intro i BF M cb sb e i0 hC hz h
    obtain rfl : i = 135 := by omega
    refine w_iln rfl ?_
    refine w_sp ?_
    refine w_cmge (fun c1 => ?_) (fun c1 => ?_)
    · skip
      exact w_ret (h _ hC.1 hC.2.1 (fun k hk => (hC.2.2 k (by omega)).trans (hz k hk (by omega))))
    · exfalso; omega
  | succ n ih =>
    intro i BF M cb sb e i0 hC hz h
    refine w_iln rfl ?_
    refine w_sp ?_
    refine w_cmge (fun c1 => ?_) (fun c1 => ?_)
    · exfalso; omega
    · skip
      refine w_aln rfl ?_
      refine w_gr gm rfl (by decide) rfl (hC.r (m45)) ?_
      refine w_iln rfl ?_
      refine w_aln rfl ?_
      refine w_gr gm rfl (by decide) rfl (hC.r (m6)) ?_
      refine w_sp ?_
      refine w_iln rfl ?_
      refine w_add ⟨by show (-2147483648 : Int) ≤ 221 + i; omega, by show 221 + i < (2147483648 : Int); omega⟩ ?_
      refine w_iald (v := (M0.1 s (221 + i.toNat))) gs rfl (by show (0 : Int) ≤ 221 + i; omega) (by show 221 + i < ((537 : Nat) : Int); omega) ((congrFun (hC.2.1 s nsb) _).trans (congrArg (M0.1 s) (show (221 + i).toNat = 221 + i.toNat by omega))) ?_
      refine w_iast gb rfl (by decide) (by show (0 : Int) ≤ i; omega) (by show i < ((135 : Nat) : Int); omega) ?_
      have hC2 := hC.hW (j := i.toNat) (z := (M0.1 s (221 + i.toNat))) rfl
      refine w_ii rfl ⟨by show (-2147483648 : Int) ≤ i + 1; omega, by show i + 1 < (2147483648 : Int); omega⟩ ?_
      show wz _ _ _ _ [some (.inr (.inr (some m))), some (.inl (i + 1))] _ _ _ _ _
      refine w_goto ?_
      refine ih (i + 1) _ _ _ _ (by omega) (by omega) hC2 (fun k hk hki => ?_) h
      by_cases e9 : k = i.toNat
      · rw [e9]; exact rv_up_s
      · rw [rv_up_n e9]; exact hz k hk (by omega)
theorem r_X12_thinksC {G : mj_G} {M0 : mj_M} {s m bf : Nat} {Q : mj_P} {d : Nat} (gm : G m = (1012, 0)) (gs : G s = (51100, 537)) (gb : G bf = (64100, 135)) (m6 : M0.2.2 m 6 = some s) (m45 : M0.2.2 m 45 = some bf) (h : ∀ M, M.2 = M0.2 → (∀ a, a ≠ bf → M.1 a = M0.1 a) → (∀ k, k < 135 → M.1 bf k = M0.1 s (221 + k)) → Q none G M) : mj_R mj_tab (d + 2) 247 [.inr (.inr (some m))] G M0 Q := by
  refine ⟨Nat.le_of_ble_eq_true rfl, ?_⟩
  show wz (d + 1) mt_X12_thinks.2.2.2.2.1 _ mt_X12_thinks.2.2.2.2.1 [some (.inr (.inr (some m))), none] [] G M0 _ _
  refine w_ic ?_
  refine w_isn ?_
  show wz _ _ _ _ [some (.inr (.inr (some m))), some (.inl 0)] _ _ _ _ _
  exact r_thk (d := d) gm gs gb m6 m45 135 0 (M0.1 bf) M0 _ _ (by decide) (by decide) ⟨rfl, fun _ _ => rfl, fun _ _ => rfl⟩ (fun k _ q => by omega) h
theorem r_fgt {G : mj_G} {M0 : mj_M} {s m bf : Nat} {Q : mj_P} {d : Nat} (gm : G m = (1012, 0)) (gs : G s = (51100, 537)) (gb : G bf = (64100, 135)) (m6 : M0.2.2 m 6 = some s) (m45 : M0.2.2 m 45 = some bf) : ∀ (n : Nat) (i : Int) (SF : Nat → Int) (M : mj_M) (cb sb : Nat), i + n = 135 → 0 ≤ i → tk_R s M0 SF M → (∀ k : Nat, k < 537 → (221 ≤ k ∧ (k : Int) < 221 + i → SF k = M0.1 bf (k - 221)) ∧ (k < 221 ∨ 221 + i ≤ (k : Int) → SF k = M0.1 s k)) → (∀ M, M.2 = M0.2 → (∀ a, a ≠ s → M.1 a = M0.1 a) → (∀ k, k < 537 → (221 ≤ k ∧ k < 356 → M.1 s k = M0.1 bf (k - 221)) ∧ (k < 221 ∨ 356 ≤ k → M.1 s k = M0.1 s k)) → Q none G M) → wz (d + 1) mt_X12_forgets.2.2.2.2.1 Q (mt_X12_forgets.2.2.2.2.1.drop 2) [some (.inr (.inr (some m))), some (.inl i)] [] G M cb sb := by
  have nbs : bf ≠ s := hn_ne gb gs (by decide)
  intro n
  induction n with
  | zero =>
    intro i SF M cb sb e i0 hC hz h
    obtain rfl : i = 135 := by omega
    refine w_iln rfl ?_
    refine w_sp ?_
    refine w_cmge (fun c1 => ?_) (fun c1 => ?_)
    · skip
      exact w_ret (h _ hC.1 hC.2.1 (fun k hk => ⟨fun q => (hC.2.2 k hk).trans ((hz k hk).1 (by omega)), fun q => (hC.2.2 k hk).trans ((hz k hk).2 (by omega))⟩))
    · exfalso; omega
  | succ n ih =>
    intro i SF M cb sb e i0 hC hz h
    refine w_iln rfl ?_
    refine w_sp ?_
    refine w_cmge (fun c1 => ?_) (fun c1 => ?_)
    · exfalso; omega
    · skip
      refine w_aln rfl ?_
      refine w_gr gm rfl (by decide) rfl (hC.r (m6)) ?_
      refine w_sp ?_
      refine w_iln rfl ?_
      refine w_add ⟨by show (-2147483648 : Int) ≤ 221 + i; omega, by show 221 + i < (2147483648 : Int); omega⟩ ?_
      refine w_aln rfl ?_
      refine w_gr gm rfl (by decide) rfl (hC.r (m45)) ?_
      refine w_iln rfl ?_
      refine w_iald (v := (M0.1 bf i.toNat)) gb rfl (by show (0 : Int) ≤ i; omega) (by show i < ((135 : Nat) : Int); omega) ((congrFun (hC.2.1 bf nbs) _)) ?_
      refine w_iast gs rfl (by decide) (by show (0 : Int) ≤ 221 + i; omega) (by show 221 + i < ((537 : Nat) : Int); omega) ?_
      have hC2 := hC.hW (j := (221 + i).toNat) (z := (M0.1 bf i.toNat)) rfl
      refine w_ii rfl ⟨by show (-2147483648 : Int) ≤ i + 1; omega, by show i + 1 < (2147483648 : Int); omega⟩ ?_
      show wz _ _ _ _ [some (.inr (.inr (some m))), some (.inl (i + 1))] _ _ _ _ _
      refine w_goto ?_
      refine ih (i + 1) _ _ _ _ (by omega) (by omega) hC2 (fun k hk => ?_) h
      by_cases e9 : k = 221 + i.toNat
      · exact ⟨fun _ => (tk_up (by omega)).trans (congrArg (M0.1 bf) (by omega)), fun q => by omega⟩
      · exact ⟨fun q => (rv_up_n (by omega)).trans ((hz k hk).1 (by omega)), fun q => (rv_up_n (by omega)).trans ((hz k hk).2 (by omega))⟩
theorem r_X12_forgetsC {G : mj_G} {M0 : mj_M} {s m bf : Nat} {Q : mj_P} {d : Nat} (gm : G m = (1012, 0)) (gs : G s = (51100, 537)) (gb : G bf = (64100, 135)) (m6 : M0.2.2 m 6 = some s) (m45 : M0.2.2 m 45 = some bf) (h : ∀ M, M.2 = M0.2 → (∀ a, a ≠ s → M.1 a = M0.1 a) → (∀ k, k < 537 → (221 ≤ k ∧ k < 356 → M.1 s k = M0.1 bf (k - 221)) ∧ (k < 221 ∨ 356 ≤ k → M.1 s k = M0.1 s k)) → Q none G M) : mj_R mj_tab (d + 2) 189 [.inr (.inr (some m))] G M0 Q := by
  refine ⟨Nat.le_of_ble_eq_true rfl, ?_⟩
  show wz (d + 1) mt_X12_forgets.2.2.2.2.1 _ mt_X12_forgets.2.2.2.2.1 [some (.inr (.inr (some m))), none] [] G M0 _ _
  refine w_ic ?_
  refine w_isn ?_
  show wz _ _ _ _ [some (.inr (.inr (some m))), some (.inl 0)] _ _ _ _ _
  exact r_fgt (d := d) gm gs gb m6 m45 135 0 (M0.1 s) M0 _ _ (by decide) (by decide) ⟨rfl, fun _ _ => rfl, fun _ _ => rfl⟩ (fun k hk => ⟨fun q => by omega, fun _ => rfl⟩) h
/-- what a call that thinks and forgets leaves -/
def rq_K (s m bf : Nat) (M M' : mj_M) : Prop := M'.2 = M.2 ∧ (∀ a, a ≠ s → a ≠ m → a ≠ bf → M'.1 a = M.1 a) ∧ (∀ j, j < 537 → M'.1 s j = M.1 s j) ∧ (∀ k, k ≠ 0 → k ≠ 29 → k ≠ 30 → k ≠ 31 → k ≠ 47 → M'.1 m k = M.1 m k)
/-- while it thinks: all but the YEAR is as it was -/
def rq_M (s m bf : Nat) (M M' : mj_M) : Prop := M'.2 = M.2 ∧ (∀ a, a ≠ s → a ≠ m → a ≠ bf → M'.1 a = M.1 a) ∧ (∀ j, j < 221 ∨ (356 ≤ j ∧ j < 537) → M'.1 s j = M.1 s j) ∧ (∀ k, k ≠ 0 → k ≠ 29 → k ≠ 30 → k ≠ 31 → k ≠ 47 → M'.1 m k = M.1 m k) ∧ (∀ k, k < 135 → M'.1 bf k = M.1 s (221 + k))
theorem ye_sh0 {i : Int} : Int32.ofInt (Int32.ofInt 0 <<< (Int32.ofInt i &&& 31)).toInt = Int32.ofInt 0 := by
  rw [Int32.ofInt_toInt, show Int32.ofInt 0 = 0 from rfl]
  first
    | exact Int32.zero_shiftLeft
    | exact Int32.zero_shiftLeft _
    | (generalize Int32.ofInt i &&& 31 = y; apply Int32.toBitVec_inj.mp; rw [Int32.toBitVec_shiftLeft]; exact BitVec.zero_shiftLeft _)
    | (generalize Int32.ofInt i &&& 31 = y; apply Int32.toBitVec_inj.mp; rw [Int32.toBitVec_shiftLeft]; simp)
section YK
variable {G : mj_G} {M M1 M2 M' : mj_M} {s m bf : Nat} {H : Nat → Int} {st : ye_T} {z : Int} {a b k t w j : Nat}
theorem rq_M.yr (h : rq_M s m bf M M1) (hY : rq_Y s m st M1 M') (nbs : bf ≠ s) (nbm : bf ≠ m) : rq_M s m bf M M' := by
  obtain ⟨a1, a2, a3, a4, a5⟩ := h
  obtain ⟨b1, b2, b3, b4, -⟩ := hY
  exact ⟨b1.trans a1, fun a h1 h2 h3 => (b2 a h1 h2).trans (a2 a h1 h2 h3), fun j hj => (b4 j hj).trans (a3 j hj), fun k k0 k1 k2 k3 k4 => (b3 k k1 k2 k3 k4).trans (a4 k k0 k1 k2 k3 k4), fun k hk => (congrFun (b2 bf nbs nbm) k).trans (a5 k hk)⟩
theorem rq_M.end (h : rq_M s m bf M M1) (nbs : bf ≠ s) (nms : m ≠ s) (e2 : M'.2 = M1.2) (e1 : ∀ a, a ≠ s → M'.1 a = M1.1 a) (e : ∀ k, k < 537 → (221 ≤ k ∧ k < 356 → M'.1 s k = M1.1 bf (k - 221)) ∧ (k < 221 ∨ 356 ≤ k → M'.1 s k = M1.1 s k)) : rq_K s m bf M M' := by
  obtain ⟨a1, a2, a3, a4, a5⟩ := h
  refine ⟨e2.trans a1, fun a h1 h2 h3 => (e1 a h1).trans (a2 a h1 h2 h3), fun j hj => ?_, fun k k0 k1 k2 k3 k4 => (congrFun (e1 m nms) k).trans (a4 k k0 k1 k2 k3 k4)⟩
  by_cases c : 221 ≤ j ∧ j < 356
  · rw [(e j hj).1 c, a5 (j - 221) (by omega), show 221 + (j - 221) = j by omega]
  · rw [(e j hj).2 (by omega)]; exact a3 j (by omega)
theorem rq_Y.R (h : rq_Y s m st M M') (e : j = 232 + 11 * t + w) (ht : t < 8) (hw : w < 11) : M'.1 s j = st.2.2.2.2 t w := by rw [e]; exact h.2.2.2.2.2.2.2 t w ht hw
theorem rq_Y.g (h : rq_Y s m st M M') (h1 : 222 ≤ j) (h2 : j < 232) : M'.1 s j = st.1 j := h.2.2.2.2.2.1 j h1 h2
theorem rq_M.L (h : rq_M s m bf M M1) (hL : yq_L G M s m H) : yq_L G M1 s m H := ⟨hL.gm, hL.gs, by rw [h.1]; exact hL.m6, fun j hj => (h.2.2.1 j (Or.inl hj)).trans (hL.vn hj), (h.2.2.2.1 32 (by decide) (by decide) (by decide) (by decide) (by decide)).trans hL.lk⟩
end YK
def ye_y0 (H : Nat → Int) : ye_T := ye_it H (fun _ => 0) (ye_fr H) 12
def ye_yd (H : Nat → Int) (z : Int) : ye_T := ye_it H (ye_xs z) (ye_fr H) 12
/-- bits, one a TOWN -/
def ye_ob (f : Nat → Int) : Nat → Int
  | 0 => 0
  | k + 1 => (Int32.ofInt (ye_ob f k) ||| Int32.ofInt (Int32.ofInt (f k) <<< (Int32.ofInt (k : Int) &&& 31)).toInt).toInt
def lr_shoresOf (H : Nat → Int) : Int := if H 0 = 0 then -1 else ye_ob (fun t => (ye_y0 H).2.2.2.2 t 3) (H 0).toNat
def lr_thirsty (H : Nat → Int) : Int := if H 0 = 0 then -1 else ye_ob (fun t => if (ye_y0 H).2.2.2.2 t 6 < H (8 + 9 * t) then 1 else 0) (H 0).toNat
def lr_drawn (H : Nat → Int) (z : Int) : Int := if H 0 = 0 then -10001 else (ye_yd H z).1 224
theorem r_shoresOfB {G : mj_G} {M M2 M3 : mj_M} {s m bf : Nat} {H : Nat → Int} {Q : mj_P} {d : Nat} (hL : yq_L G M s m H) (h0 : 0 ≤ H 0 ∧ H 0 ≤ 8) (hM2 : rq_M s m bf M M2) (hY : rq_Y s m (ye_y0 H) M3 M2) : ∀ (n : Nat) (i : Int) (cb sb : Nat), i + n = H 0 → 0 ≤ i → wz (d + 2) mt_X12_shoresOf.2.2.2.2.1 Q (mt_X12_shoresOf.2.2.2.2.1.drop 36) [some (.inr (.inr (some m))), some (.inl (ye_ob (fun t => (ye_y0 H).2.2.2.2 t 3) (H 0).toNat)), some (.inl (H 0))] [] G M2 cb sb → wz (d + 2) mt_X12_shoresOf.2.2.2.2.1 Q (mt_X12_shoresOf.2.2.2.2.1.drop 19) [some (.inr (.inr (some m))), some (.inl (ye_ob (fun t => (ye_y0 H).2.2.2.2 t 3) i.toNat)), some (.inl i)] [] G M2 cb sb := by
  have m62 : M2.2.2 m 6 = some s := by rw [hM2.1]; exact hL.m6
  intro n
  induction n with
  | zero =>
    intro i cb sb e i0 h
    obtain rfl : i = H 0 := by omega
    refine w_iln rfl ?_
    refine w_aln rfl ?_
    refine w_gr hL.gm rfl (by decide) rfl (m62) ?_
    refine w_ic ?_
    refine w_iald (v := (H 0)) hL.gs rfl (by show (0 : Int) ≤ 0; omega) (by show 0 < ((537 : Nat) : Int); omega) ((congrArg (M2.1 s) (show (0 : Int).toNat = 0 by omega)).trans ((hM2.2.2.1 (0) (Or.inl (by omega))).trans (hL.vn (by omega)))) ?_
    refine w_cmge (fun c1 => ?_) (fun c1 => ?_)
    · skip
      exact h
    · exfalso; omega
  | succ n ih =>
    intro i cb sb e i0 h
    have et : (i + 1).toNat = i.toNat + 1 := by omega
    have ei : ((i.toNat : Nat) : Int) = i := by omega
    refine w_iln rfl ?_
    refine w_aln rfl ?_
    refine w_gr hL.gm rfl (by decide) rfl (m62) ?_
    refine w_ic ?_
    refine w_iald (v := (H 0)) hL.gs rfl (by show (0 : Int) ≤ 0; omega) (by show 0 < ((537 : Nat) : Int); omega) ((congrArg (M2.1 s) (show (0 : Int).toNat = 0 by omega)).trans ((hM2.2.2.1 (0) (Or.inl (by omega))).trans (hL.vn (by omega)))) ?_
    refine w_cmge (fun c1 => ?_) (fun c1 => ?_)
    · exfalso; omega
    · skip
      refine w_iln rfl ?_
      refine w_aln rfl ?_
      refine w_iln rfl ?_
      refine w_ic ?_
      refine w_cv (st := [.inl (ye_ob (fun t => (ye_y0 H).2.2.2.2 t 3) i.toNat)]) rfl hL.gm rfl (Nat.le_of_ble_eq_true rfl) (fun kk h => h) ⟨Nat.le_of_ble_eq_true rfl, ?_⟩
      show wz (d + 1) mt_X12_of.2.2.2.2.1 _ mt_X12_of.2.2.2.2.1 [some (.inr (.inr (some m))), some (.inl i), some (.inl 3)] [] _ _ _ _
      refine w_aln rfl ?_
      refine w_gr hL.gm rfl (by decide) rfl (m62) ?_
      refine w_sp ?_
      refine w_bp ?_
      refine w_iln rfl ?_
      refine w_mul ⟨by show (-2147483648 : Int) ≤ 11 * i; omega, by show 11 * i < (2147483648 : Int); omega⟩ ?_
      refine w_add ⟨by show (-2147483648 : Int) ≤ 232 + (11 * i); omega, by show 232 + (11 * i) < (2147483648 : Int); omega⟩ ?_
      refine w_iln rfl ?_
      refine w_add ⟨by show (-2147483648 : Int) ≤ (232 + (11 * i)) + 3; omega, by show (232 + (11 * i)) + 3 < (2147483648 : Int); omega⟩ ?_
      refine w_iald (v := ((ye_y0 H).2.2.2.2 i.toNat 3)) hL.gs rfl (by show (0 : Int) ≤ (232 + (11 * i)) + 3; omega) (by show (232 + (11 * i)) + 3 < ((537 : Nat) : Int); omega) (hY.R (w := 3) (by show ((232 + (11 * i)) + 3).toNat = 232 + 11 * i.toNat + 3; omega) (by show i.toNat < 8; omega) (by decide)) ?_
      refine w_iret (fun q => by cases q) ?_
      refine w_iln rfl ?_
      refine w_shl ?_
      intro z2 hz2 ez2
      refine w_or ?_
      intro z3 hz3 ez3
      refine w_isn ?_
      show wz _ _ _ _ [some (.inr (.inr (some m))), some (.inl z3), some (.inl i)] _ _ _ _ _
      refine w_ii rfl ⟨by show (-2147483648 : Int) ≤ i + 1; omega, by show i + 1 < (2147483648 : Int); omega⟩ ?_
      show wz _ _ _ _ [some (.inr (.inr (some m))), some (.inl z3), some (.inl (i + 1))] _ _ _ _ _
      refine w_goto ?_
      have ez : z3 = ye_ob (fun t => (ye_y0 H).2.2.2.2 t 3) (i + 1).toNat := by
        rw [et]; show _ = (Int32.ofInt (ye_ob (fun t => (ye_y0 H).2.2.2.2 t 3) i.toNat) ||| Int32.ofInt (Int32.ofInt ((fun t => (ye_y0 H).2.2.2.2 t 3) i.toNat) <<< (Int32.ofInt ((i.toNat : Nat) : Int) &&& 31)).toInt).toInt
        rw [ei]
        rw [ez3, ez2]
      rw [ez]
      exact ih (i + 1) _ _ (by omega) (by omega) h
theorem r_X12_shoresOfC {G : mj_G} {M : mj_M} {s m bf : Nat} {H : Nat → Int} {Q : mj_P} {d : Nat} (hL : yq_L G M s m H) (gb : G bf = (64100, 135)) (m45 : M.2.2 m 45 = some bf) (hH : ye_H2 H) (h : ∀ M1, rq_K s m bf M M1 → Q (some (.inl (lr_shoresOf H))) G M1) : mj_R mj_tab (d + 6) 241 [.inr (.inr (some m))] G M Q := by
  have nbs : bf ≠ s := hn_ne gb hL.gs (by decide)
  have nbm : bf ≠ m := hn_ne gb hL.gm (by decide)
  have nms : m ≠ s := hL.sm.symm
  have h0 := hH.1.1
  refine ⟨Nat.le_of_ble_eq_true rfl, ?_⟩
  show wz (d + 5) mt_X12_shoresOf.2.2.2.2.1 _ mt_X12_shoresOf.2.2.2.2.1 [some (.inr (.inr (some m))), none, none] [] G M _ _
  refine w_aln rfl ?_
  refine w_ic ?_
  refine w_pi hL.gm rfl (by decide) rfl (fun q => by cases q) ?_
  refine w_aln rfl ?_
  refine w_gr hL.gm rfl (by decide) rfl (hL.m6) ?_
  refine w_ic ?_
  refine w_iald (v := (H 0)) hL.gs rfl (by show (0 : Int) ≤ 0; omega) (by show 0 < ((537 : Nat) : Int); omega) ((congrFun (wz_c hL.sm) _).trans ((congrArg (M.1 s) (show (0 : Int).toNat = 0 by omega)).trans (hL.vn (by omega)))) ?_
  refine w_ifne (fun c1 => ?_) (fun c1 => ?_)
  · skip
    refine w_aln rfl ?_
    refine w_cv (st := []) rfl hL.gm rfl (Nat.le_of_ble_eq_true rfl) (fun kk h => h) (r_X12_thinksC (M0 := mj_p0 M m 0 0) (d := d + 3) hL.gm hL.gs gb hL.m6 m45 (fun M1 t1 t2 t3 => ?_))
    have hM : rq_M s m bf M M1 := ⟨t1, fun a a1 a2 a3 => (t2 a a3).trans (wz_c a2), fun j _ => (congrFun (t2 s nbs.symm) j).trans (congrFun (wz_c hL.sm) j), fun k k0 _ _ _ _ => (congrFun (t2 m nbm.symm) k).trans (hn_n (Or.inr k0)), fun k hk => (t3 k hk).trans (congrFun (wz_c hL.sm) _)⟩
    have m6 : M1.2.2 m 6 = some s := by rw [t1]; exact hL.m6
    refine w_aln rfl ?_
    refine w_ic ?_
    refine w_cv (st := []) rfl hL.gm rfl (Nat.le_of_ble_eq_true rfl) (fun kk h => h) (r_X12_wholeYear0 (d := d) (hM.L hL) hH (fun M2 hY => ?_))
    have hM2 := hM.yr hY nbs nbm
    have m62 : M2.2.2 m 6 = some s := by rw [hM2.1]; exact hL.m6
    refine w_ic ?_
    refine w_isn ?_
    show wz _ _ _ _ [some (.inr (.inr (some m))), some (.inl 0), none] _ _ _ _ _
    refine w_ic ?_
    refine w_isn ?_
    show wz _ _ _ _ [some (.inr (.inr (some m))), some (.inl 0), some (.inl 0)] _ _ _ _ _
    refine r_shoresOfB (d := d + 3) hL h0 hM2 hY (H 0).toNat 0 _ _ (by omega) (by decide) ?_
    refine w_aln rfl ?_
    refine w_cv (st := []) rfl hL.gm rfl (Nat.le_of_ble_eq_true rfl) (fun kk h => h) (r_X12_forgetsC (M0 := M2) (d := d + 3) hL.gm hL.gs gb (by rw [hM2.1]; exact hL.m6) (by rw [hM2.1]; exact m45) (fun M9 f1 f2 f3 => ?_))
    have hK := hM2.end nbs nms f1 f2 f3
    refine w_iln rfl ?_
    exact w_iret (fun q => by cases q) (by have q := h _ hK; unfold lr_shoresOf at q; rw [if_neg (by omega)] at q; exact q)
  · skip
    refine w_ic ?_
    have hK : rq_K s m bf M (mj_p0 M m 0 0) := ⟨rfl, fun a _ a2 _ => wz_c a2, fun j _ => congrFun (wz_c hL.sm) j, fun k k0 _ _ _ _ => hn_n (Or.inr k0)⟩
    exact w_iret (fun q => by cases q) (by have q := h _ hK; unfold lr_shoresOf at q; rw [if_pos (by omega)] at q; exact q)
theorem r_thirstyB {G : mj_G} {M M2 M3 : mj_M} {s m bf : Nat} {H : Nat → Int} {Q : mj_P} {d : Nat} (hL : yq_L G M s m H) (h0 : 0 ≤ H 0 ∧ H 0 ≤ 8) (hM2 : rq_M s m bf M M2) (hY : rq_Y s m (ye_y0 H) M3 M2) : ∀ (n : Nat) (i : Int) (cb sb : Nat), i + n = H 0 → 0 ≤ i → wz (d + 2) mt_X12_thirsty.2.2.2.2.1 Q (mt_X12_thirsty.2.2.2.2.1.drop 44) [some (.inr (.inr (some m))), some (.inl (ye_ob (fun t => if (ye_y0 H).2.2.2.2 t 6 < H (8 + 9 * t) then 1 else 0) (H 0).toNat)), some (.inl (H 0))] [] G M2 cb sb → wz (d + 2) mt_X12_thirsty.2.2.2.2.1 Q (mt_X12_thirsty.2.2.2.2.1.drop 19) [some (.inr (.inr (some m))), some (.inl (ye_ob (fun t => if (ye_y0 H).2.2.2.2 t 6 < H (8 + 9 * t) then 1 else 0) i.toNat)), some (.inl i)] [] G M2 cb sb := by
  have m62 : M2.2.2 m 6 = some s := by rw [hM2.1]; exact hL.m6
  intro n
  induction n with
  | zero =>
    intro i cb sb e i0 h
    obtain rfl : i = H 0 := by omega
    refine w_iln rfl ?_
    refine w_aln rfl ?_
    refine w_gr hL.gm rfl (by decide) rfl (m62) ?_
    refine w_ic ?_
    refine w_iald (v := (H 0)) hL.gs rfl (by show (0 : Int) ≤ 0; omega) (by show 0 < ((537 : Nat) : Int); omega) ((congrArg (M2.1 s) (show (0 : Int).toNat = 0 by omega)).trans ((hM2.2.2.1 (0) (Or.inl (by omega))).trans (hL.vn (by omega)))) ?_
    refine w_cmge (fun c1 => ?_) (fun c1 => ?_)
    · skip
      exact h
    · exfalso; omega
  | succ n ih =>
    intro i cb sb e i0 h
    have et : (i + 1).toNat = i.toNat + 1 := by omega
    have ei : ((i.toNat : Nat) : Int) = i := by omega
    refine w_iln rfl ?_
    refine w_aln rfl ?_
    refine w_gr hL.gm rfl (by decide) rfl (m62) ?_
    refine w_ic ?_
    refine w_iald (v := (H 0)) hL.gs rfl (by show (0 : Int) ≤ 0; omega) (by show 0 < ((537 : Nat) : Int); omega) ((congrArg (M2.1 s) (show (0 : Int).toNat = 0 by omega)).trans ((hM2.2.2.1 (0) (Or.inl (by omega))).trans (hL.vn (by omega)))) ?_
    refine w_cmge (fun c1 => ?_) (fun c1 => ?_)
    · exfalso; omega
    · skip
      refine w_iln rfl ?_
      refine w_aln rfl ?_
      refine w_iln rfl ?_
      refine w_bp ?_
      refine w_cv (st := [.inl (ye_ob (fun t => if (ye_y0 H).2.2.2.2 t 6 < H (8 + 9 * t) then 1 else 0) i.toNat)]) rfl hL.gm rfl (Nat.le_of_ble_eq_true rfl) (fun kk h => h) ⟨Nat.le_of_ble_eq_true rfl, ?_⟩
      show wz (d + 1) mt_X12_of.2.2.2.2.1 _ mt_X12_of.2.2.2.2.1 [some (.inr (.inr (some m))), some (.inl i), some (.inl 6)] [] _ _ _ _
      refine w_aln rfl ?_
      refine w_gr hL.gm rfl (by decide) rfl (m62) ?_
      refine w_sp ?_
      refine w_bp ?_
      refine w_iln rfl ?_
      refine w_mul ⟨by show (-2147483648 : Int) ≤ 11 * i; omega, by show 11 * i < (2147483648 : Int); omega⟩ ?_
      refine w_add ⟨by show (-2147483648 : Int) ≤ 232 + (11 * i); omega, by show 232 + (11 * i) < (2147483648 : Int); omega⟩ ?_
      refine w_iln rfl ?_
      refine w_add ⟨by show (-2147483648 : Int) ≤ (232 + (11 * i)) + 6; omega, by show (232 + (11 * i)) + 6 < (2147483648 : Int); omega⟩ ?_
      refine w_iald (v := ((ye_y0 H).2.2.2.2 i.toNat 6)) hL.gs rfl (by show (0 : Int) ≤ (232 + (11 * i)) + 6; omega) (by show (232 + (11 * i)) + 6 < ((537 : Nat) : Int); omega) (hY.R (w := 6) (by show ((232 + (11 * i)) + 6).toNat = 232 + 11 * i.toNat + 6; omega) (by show i.toNat < 8; omega) (by decide)) ?_
      refine w_iret (fun q => by cases q) ?_
      refine w_aln rfl ?_
      refine w_iln rfl ?_
      refine w_ic ?_
      refine w_cv (st := [.inl ((ye_y0 H).2.2.2.2 i.toNat 6), .inl (ye_ob (fun t => if (ye_y0 H).2.2.2.2 t 6 < H (8 + 9 * t) then 1 else 0) i.toNat)]) rfl hL.gm rfl (Nat.le_of_ble_eq_true rfl) (fun kk h => h) ⟨Nat.le_of_ble_eq_true rfl, ?_⟩
      show wz (d + 1) mt_X12_toldOf.2.2.2.2.1 _ mt_X12_toldOf.2.2.2.2.1 [some (.inr (.inr (some m))), some (.inl i), some (.inl 4)] [] _ _ _ _
      refine w_aln rfl ?_
      refine w_gr hL.gm rfl (by decide) rfl (m62) ?_
      refine w_ic ?_
      refine w_bp ?_
      refine w_iln rfl ?_
      refine w_mul ⟨by show (-2147483648 : Int) ≤ 9 * i; omega, by show 9 * i < (2147483648 : Int); omega⟩ ?_
      refine w_add ⟨by show (-2147483648 : Int) ≤ 4 + (9 * i); omega, by show 4 + (9 * i) < (2147483648 : Int); omega⟩ ?_
      refine w_iln rfl ?_
      refine w_add ⟨by show (-2147483648 : Int) ≤ (4 + (9 * i)) + 4; omega, by show (4 + (9 * i)) + 4 < (2147483648 : Int); omega⟩ ?_
      refine w_iald (v := (H (8 + 9 * i.toNat))) hL.gs rfl (by show (0 : Int) ≤ (4 + (9 * i)) + 4; omega) (by show (4 + (9 * i)) + 4 < ((537 : Nat) : Int); omega) ((congrArg (M2.1 s) (show ((4 + (9 * i)) + 4).toNat = 8 + 9 * i.toNat by omega)).trans ((hM2.2.2.1 (8 + 9 * i.toNat) (Or.inl (by omega))).trans (hL.vn (by omega)))) ?_
      refine w_iret (fun q => by cases q) ?_
      refine w_cmge (fun c2 => ?_) (fun c2 => ?_)
      · skip
        refine w_ic ?_
        refine w_or ?_
        intro z3 hz3 ez3
        refine w_isn ?_
        show wz _ _ _ _ [some (.inr (.inr (some m))), some (.inl z3), some (.inl i)] _ _ _ _ _
        refine w_ii rfl ⟨by show (-2147483648 : Int) ≤ i + 1; omega, by show i + 1 < (2147483648 : Int); omega⟩ ?_
        show wz _ _ _ _ [some (.inr (.inr (some m))), some (.inl z3), some (.inl (i + 1))] _ _ _ _ _
        refine w_goto ?_
        have ez : z3 = ye_ob (fun t => if (ye_y0 H).2.2.2.2 t 6 < H (8 + 9 * t) then 1 else 0) (i + 1).toNat := by
          rw [et]; show _ = (Int32.ofInt (ye_ob (fun t => if (ye_y0 H).2.2.2.2 t 6 < H (8 + 9 * t) then 1 else 0) i.toNat) ||| Int32.ofInt (Int32.ofInt ((fun t => if (ye_y0 H).2.2.2.2 t 6 < H (8 + 9 * t) then 1 else 0) i.toNat) <<< (Int32.ofInt ((i.toNat : Nat) : Int) &&& 31)).toInt).toInt
          rw [ei]
          show _ = (Int32.ofInt (ye_ob (fun t => if (ye_y0 H).2.2.2.2 t 6 < H (8 + 9 * t) then 1 else 0) i.toNat) ||| Int32.ofInt (Int32.ofInt (if (ye_y0 H).2.2.2.2 i.toNat 6 < H (8 + 9 * i.toNat) then 1 else 0) <<< (Int32.ofInt i &&& 31)).toInt).toInt
          rw [if_neg (by omega), ez3, show (Int32.ofInt (Int32.ofInt 0 <<< (Int32.ofInt i &&& 31)).toInt) = Int32.ofInt 0 from ye_sh0]
        rw [ez]
        exact ih (i + 1) _ _ (by omega) (by omega) h
      · skip
        refine w_ic ?_
        refine w_iln rfl ?_
        refine w_shl ?_
        intro z4 hz4 ez4
        refine w_goto ?_
        refine w_or ?_
        intro z5 hz5 ez5
        obtain rfl : z5 = rv_bs (ye_ob (fun t => if (ye_y0 H).2.2.2.2 t 6 < H (8 + 9 * t) then 1 else 0) i.toNat) i := by rw [ez5, ez4]; rfl
        refine w_isn ?_
        show wz _ _ _ _ [some (.inr (.inr (some m))), some (.inl (rv_bs (ye_ob (fun t => if (ye_y0 H).2.2.2.2 t 6 < H (8 + 9 * t) then 1 else 0) i.toNat) i)), some (.inl i)] _ _ _ _ _
        refine w_ii rfl ⟨by show (-2147483648 : Int) ≤ i + 1; omega, by show i + 1 < (2147483648 : Int); omega⟩ ?_
        show wz _ _ _ _ [some (.inr (.inr (some m))), some (.inl (rv_bs (ye_ob (fun t => if (ye_y0 H).2.2.2.2 t 6 < H (8 + 9 * t) then 1 else 0) i.toNat) i)), some (.inl (i + 1))] _ _ _ _ _
        refine w_goto ?_
        have ez : (rv_bs (ye_ob (fun t => if (ye_y0 H).2.2.2.2 t 6 < H (8 + 9 * t) then 1 else 0) i.toNat) i) = ye_ob (fun t => if (ye_y0 H).2.2.2.2 t 6 < H (8 + 9 * t) then 1 else 0) (i + 1).toNat := by
          rw [et]; show _ = (Int32.ofInt (ye_ob (fun t => if (ye_y0 H).2.2.2.2 t 6 < H (8 + 9 * t) then 1 else 0) i.toNat) ||| Int32.ofInt (Int32.ofInt ((fun t => if (ye_y0 H).2.2.2.2 t 6 < H (8 + 9 * t) then 1 else 0) i.toNat) <<< (Int32.ofInt ((i.toNat : Nat) : Int) &&& 31)).toInt).toInt
          rw [ei]
          show _ = (Int32.ofInt (ye_ob (fun t => if (ye_y0 H).2.2.2.2 t 6 < H (8 + 9 * t) then 1 else 0) i.toNat) ||| Int32.ofInt (Int32.ofInt (if (ye_y0 H).2.2.2.2 i.toNat 6 < H (8 + 9 * i.toNat) then 1 else 0) <<< (Int32.ofInt i &&& 31)).toInt).toInt
          rw [if_pos (by omega)]; rfl
        rw [ez]
        exact ih (i + 1) _ _ (by omega) (by omega) h
theorem r_X12_thirstyC {G : mj_G} {M : mj_M} {s m bf : Nat} {H : Nat → Int} {Q : mj_P} {d : Nat} (hL : yq_L G M s m H) (gb : G bf = (64100, 135)) (m45 : M.2.2 m 45 = some bf) (hH : ye_H2 H) (h : ∀ M1, rq_K s m bf M M1 → Q (some (.inl (lr_thirsty H))) G M1) : mj_R mj_tab (d + 6) 248 [.inr (.inr (some m))] G M Q := by
  have nbs : bf ≠ s := hn_ne gb hL.gs (by decide)
  have nbm : bf ≠ m := hn_ne gb hL.gm (by decide)
  have nms : m ≠ s := hL.sm.symm
  have h0 := hH.1.1
  refine ⟨Nat.le_of_ble_eq_true rfl, ?_⟩
  show wz (d + 5) mt_X12_thirsty.2.2.2.2.1 _ mt_X12_thirsty.2.2.2.2.1 [some (.inr (.inr (some m))), none, none] [] G M _ _
  refine w_aln rfl ?_
  refine w_ic ?_
  refine w_pi hL.gm rfl (by decide) rfl (fun q => by cases q) ?_
  refine w_aln rfl ?_
  refine w_gr hL.gm rfl (by decide) rfl (hL.m6) ?_
  refine w_ic ?_
  refine w_iald (v := (H 0)) hL.gs rfl (by show (0 : Int) ≤ 0; omega) (by show 0 < ((537 : Nat) : Int); omega) ((congrFun (wz_c hL.sm) _).trans ((congrArg (M.1 s) (show (0 : Int).toNat = 0 by omega)).trans (hL.vn (by omega)))) ?_
  refine w_ifne (fun c1 => ?_) (fun c1 => ?_)
  · skip
    refine w_aln rfl ?_
    refine w_cv (st := []) rfl hL.gm rfl (Nat.le_of_ble_eq_true rfl) (fun kk h => h) (r_X12_thinksC (M0 := mj_p0 M m 0 0) (d := d + 3) hL.gm hL.gs gb hL.m6 m45 (fun M1 t1 t2 t3 => ?_))
    have hM : rq_M s m bf M M1 := ⟨t1, fun a a1 a2 a3 => (t2 a a3).trans (wz_c a2), fun j _ => (congrFun (t2 s nbs.symm) j).trans (congrFun (wz_c hL.sm) j), fun k k0 _ _ _ _ => (congrFun (t2 m nbm.symm) k).trans (hn_n (Or.inr k0)), fun k hk => (t3 k hk).trans (congrFun (wz_c hL.sm) _)⟩
    have m6 : M1.2.2 m 6 = some s := by rw [t1]; exact hL.m6
    refine w_aln rfl ?_
    refine w_ic ?_
    refine w_cv (st := []) rfl hL.gm rfl (Nat.le_of_ble_eq_true rfl) (fun kk h => h) (r_X12_wholeYear0 (d := d) (hM.L hL) hH (fun M2 hY => ?_))
    have hM2 := hM.yr hY nbs nbm
    have m62 : M2.2.2 m 6 = some s := by rw [hM2.1]; exact hL.m6
    refine w_ic ?_
    refine w_isn ?_
    show wz _ _ _ _ [some (.inr (.inr (some m))), some (.inl 0), none] _ _ _ _ _
    refine w_ic ?_
    refine w_isn ?_
    show wz _ _ _ _ [some (.inr (.inr (some m))), some (.inl 0), some (.inl 0)] _ _ _ _ _
    refine r_thirstyB (d := d + 3) hL h0 hM2 hY (H 0).toNat 0 _ _ (by omega) (by decide) ?_
    refine w_aln rfl ?_
    refine w_cv (st := []) rfl hL.gm rfl (Nat.le_of_ble_eq_true rfl) (fun kk h => h) (r_X12_forgetsC (M0 := M2) (d := d + 3) hL.gm hL.gs gb (by rw [hM2.1]; exact hL.m6) (by rw [hM2.1]; exact m45) (fun M9 f1 f2 f3 => ?_))
    have hK := hM2.end nbs nms f1 f2 f3
    refine w_iln rfl ?_
    exact w_iret (fun q => by cases q) (by have q := h _ hK; unfold lr_thirsty at q; rw [if_neg (by omega)] at q; exact q)
  · skip
    refine w_ic ?_
    have hK : rq_K s m bf M (mj_p0 M m 0 0) := ⟨rfl, fun a _ a2 _ => wz_c a2, fun j _ => congrFun (wz_c hL.sm) j, fun k k0 _ _ _ _ => hn_n (Or.inr k0)⟩
    exact w_iret (fun q => by cases q) (by have q := h _ hK; unfold lr_thirsty at q; rw [if_pos (by omega)] at q; exact q)
theorem r_X12_drawnC {G : mj_G} {M : mj_M} {s m bf : Nat} {H : Nat → Int} {Q : mj_P} {d : Nat} (hL : yq_L G M s m H) (gb : G bf = (64100, 135)) (m45 : M.2.2 m 45 = some bf) (hH : ye_H2 H) {z : Int} (h : ∀ M1, rq_K s m bf M M1 → Q (some (.inl (lr_drawn H z))) G M1) : mj_R mj_tab (d + 6) 182 [.inr (.inr (some m)), .inl z] G M Q := by
  have nbs : bf ≠ s := hn_ne gb hL.gs (by decide)
  have nbm : bf ≠ m := hn_ne gb hL.gm (by decide)
  have nms : m ≠ s := hL.sm.symm
  have h0 := hH.1.1
  refine ⟨Nat.le_of_ble_eq_true rfl, ?_⟩
  show wz (d + 5) mt_X12_drawn.2.2.2.2.1 _ mt_X12_drawn.2.2.2.2.1 [some (.inr (.inr (some m))), some (.inl z), none] [] G M _ _
  refine w_aln rfl ?_
  refine w_ic ?_
  refine w_pi hL.gm rfl (by decide) rfl (fun q => by cases q) ?_
  refine w_aln rfl ?_
  refine w_gr hL.gm rfl (by decide) rfl (hL.m6) ?_
  refine w_ic ?_
  refine w_iald (v := (H 0)) hL.gs rfl (by show (0 : Int) ≤ 0; omega) (by show 0 < ((537 : Nat) : Int); omega) ((congrFun (wz_c hL.sm) _).trans ((congrArg (M.1 s) (show (0 : Int).toNat = 0 by omega)).trans (hL.vn (by omega)))) ?_
  refine w_ifne (fun c1 => ?_) (fun c1 => ?_)
  · skip
    refine w_aln rfl ?_
    refine w_cv (st := []) rfl hL.gm rfl (Nat.le_of_ble_eq_true rfl) (fun kk h => h) (r_X12_thinksC (M0 := mj_p0 M m 0 0) (d := d + 3) hL.gm hL.gs gb hL.m6 m45 (fun M1 t1 t2 t3 => ?_))
    have hM : rq_M s m bf M M1 := ⟨t1, fun a a1 a2 a3 => (t2 a a3).trans (wz_c a2), fun j _ => (congrFun (t2 s nbs.symm) j).trans (congrFun (wz_c hL.sm) j), fun k k0 _ _ _ _ => (congrFun (t2 m nbm.symm) k).trans (hn_n (Or.inr k0)), fun k hk => (t3 k hk).trans (congrFun (wz_c hL.sm) _)⟩
    have m6 : M1.2.2 m 6 = some s := by rw [t1]; exact hL.m6
    refine w_aln rfl ?_
    refine w_iln rfl ?_
    refine w_pi hL.gm rfl (by decide) rfl (fun q => by cases q) ?_
    have hM3 : rq_M s m bf M (mj_p0 M1 m 47 z) := ⟨hM.1, fun a a1 a2 a3 => (wz_c a2).trans (hM.2.1 a a1 a2 a3), fun j hj => (congrFun (wz_c hL.sm) j).trans (hM.2.2.1 j hj), fun k k0 k1 k2 k3 k4 => (hn_n (Or.inr k4)).trans (hM.2.2.2.1 k k0 k1 k2 k3 k4), fun k hk => (congrFun (wz_c nbm) k).trans (hM.2.2.2.2 k hk)⟩
    refine w_aln rfl ?_
    refine w_ic ?_
    refine w_cv (st := []) rfl hL.gm rfl (Nat.le_of_ble_eq_true rfl) (fun kk h => h) (r_X12_wholeYear1 (d := d) (hM3.L hL) hH hn_s (fun M2 hY => ?_))
    have hM2 := hM3.yr hY nbs nbm
    have m62 : M2.2.2 m 6 = some s := by rw [hM2.1]; exact hL.m6
    refine w_aln rfl ?_
    refine w_gr hL.gm rfl (by decide) rfl (m62) ?_
    refine w_sp ?_
    refine w_iald (v := ((ye_yd H z).1 224)) hL.gs rfl (by show (0 : Int) ≤ 224; omega) (by show 224 < ((537 : Nat) : Int); omega) (hY.g (by decide) (by decide)) ?_
    refine w_isn ?_
    show wz _ _ _ _ [some (.inr (.inr (some m))), some (.inl z), some (.inl ((ye_yd H z).1 224))] _ _ _ _ _
    refine w_aln rfl ?_
    refine w_cv (st := []) rfl hL.gm rfl (Nat.le_of_ble_eq_true rfl) (fun kk h => h) (r_X12_forgetsC (M0 := M2) (d := d + 3) hL.gm hL.gs gb (by rw [hM2.1]; exact hL.m6) (by rw [hM2.1]; exact m45) (fun M9 f1 f2 f3 => ?_))
    have hK := hM2.end nbs nms f1 f2 f3
    refine w_iln rfl ?_
    exact w_iret (fun q => by cases q) (by have q := h _ hK; unfold lr_drawn at q; rw [if_neg (by omega)] at q; exact q)
  · skip
    refine w_sp ?_
    have hK : rq_K s m bf M (mj_p0 M m 0 0) := ⟨rfl, fun a _ a2 _ => wz_c a2, fun j _ => congrFun (wz_c hL.sm) j, fun k k0 _ _ _ _ => hn_n (Or.inr k0)⟩
    exact w_iret (fun q => by cases q) (by have q := h _ hK; unfold lr_drawn at q; rw [if_pos (by omega)] at q; exact q)
