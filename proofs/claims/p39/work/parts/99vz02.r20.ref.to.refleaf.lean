section
/-! ===== the reference while it reads a PLAIN (laid by a program) ===== -/
theorem rv_sm : ∀ j : Fin 32, (Int32.ofInt (j.val : Int) &&& 31).toBitVec.smod 32 = BitVec.ofNat 32 j.val := by decide +kernel
theorem rv_s1 : ∀ j k : Fin 32, (BitVec.ofNat 32 1 <<< (BitVec.ofNat 32 k.val)).getLsbD j.val = decide (j = k) := by decide +kernel
theorem rv_bt_b (z : Int) (j : Nat) (hj : j < 32) : rv_bt z (j : Int) = if (Int32.ofInt z).toBitVec.getLsbD j = true then 1 else 0 := by
  unfold rv_bt
  rw [mj_it]
  have e1 : (Int32.ofInt z >>> (Int32.ofInt (j : Int) &&& 31) &&& Int32.ofInt 1).toBitVec = (BitVec.ofBool ((Int32.ofInt z).toBitVec.getLsbD j)).setWidth 32 := by
    rw [Int32.toBitVec_and, Int32.toBitVec_shiftRight, rv_sm ⟨j, hj⟩]
    show _ &&& 1#32 = _
    rw [BitVec.and_one_eq_setWidth_ofBool_getLsbD]
    congr 2
    show ((Int32.ofInt z).toBitVec.sshiftRight (BitVec.ofNat 32 j).toNat).getLsbD 0 = _
    have e : (BitVec.ofNat 32 j).toNat = j := by rw [BitVec.toNat_ofNat]; exact Nat.mod_eq_of_lt (by omega)
    rw [e, BitVec.getLsbD_sshiftRight]
    simp [hj]
  have e2 : ∀ b : Bool, ∀ x : Int32, x.toBitVec = (BitVec.ofBool b).setWidth 32 → x.toInt = if b = true then 1 else 0 := by
    intro b x hx
    have : x = (if b = true then 1 else 0 : Int32) := by
      apply Int32.toBitVec_inj.mp
      rw [hx]
      cases b <;> decide
    rw [this]
    cases b <;> decide
  exact e2 _ _ e1
theorem rv_bs_b (z : Int) (j k : Nat) (hj : j < 32) (hk : k < 32) : rv_bt (rv_bs z (k : Int)) (j : Int) = if j = k then 1 else rv_bt z (j : Int) := by
  rw [rv_bt_b _ j hj, rv_bt_b _ j hj]
  unfold rv_bs
  rw [mj_it, mj_it, Int32.toBitVec_or, Int32.toBitVec_shiftLeft, rv_sm ⟨k, hk⟩, BitVec.getLsbD_or]
  have e := rv_s1 ⟨j, hj⟩ ⟨k, hk⟩
  have e' : ((Int32.ofInt 1).toBitVec <<< (BitVec.ofNat 32 k)).getLsbD j = decide (j = k) := by
    rw [show (Int32.ofInt 1).toBitVec = BitVec.ofNat 32 1 by decide]
    rw [e]; exact decide_eq_decide.mpr ⟨fun h => congrArg Fin.val h, fun h => Fin.ext h⟩
  rw [e']
  by_cases c : j = k
  · rw [if_pos c]; simp [c]
  · rw [if_neg c]; simp [c]
/-- the reference's kinds of tokens -/
def rv_tkc (t : Nat × Nat × Int × List Int × Nat) : Int := if t.1 = 3 then (if t.2.2.1 = 59 ∨ t.2.2.1 = 40 ∨ t.2.2.1 = 41 ∨ (60 ≤ t.2.2.1 ∧ t.2.2.1 ≤ 62) then 3 else 4) else if t.1 = 5 then 4 else (t.1 : Int)
theorem rv_tkc_f {t : Nat × Nat × Int × List Int × Nat} (h : t.1 ≤ 5) : (rv_tkc t = 0 ∧ t.1 = 0) ∨ (rv_tkc t = 1 ∧ t.1 = 1) ∨ (rv_tkc t = 2 ∧ t.1 = 2) ∨ (rv_tkc t = 3 ∧ t.1 = 3) ∨ (rv_tkc t = 4 ∧ t.1 ≠ 0 ∧ t.1 ≠ 1 ∧ t.1 ≠ 2) := by
  unfold rv_tkc
  split
  · split <;> omega
  · split <;> omega
theorem rv_tkc_s {t : Nat × Nat × Int × List Int × Nat} (h : t.1 = 3) : (rv_tkc t = 3 ∧ (t.2.2.1 = 59 ∨ t.2.2.1 = 40 ∨ t.2.2.1 = 41 ∨ (60 ≤ t.2.2.1 ∧ t.2.2.1 ≤ 62))) ∨ (rv_tkc t = 4 ∧ ¬ (t.2.2.1 = 59 ∨ t.2.2.1 = 40 ∨ t.2.2.1 = 41 ∨ (60 ≤ t.2.2.1 ∧ t.2.2.1 ≤ 62))) := by
  unfold rv_tkc
  rw [if_pos h]
  split
  · rename_i c; exact Or.inl ⟨rfl, c⟩
  · rename_i c; exact Or.inr ⟨rfl, c⟩
def rv_tq (t : Nat × Nat × Int × List Int × Nat) (m : Nat) (M : mj_M) : Prop := M.1 m 11 = rv_tkc t ∧ M.1 m 12 = (t.2.1 : Int) ∧ (t.1 = 1 → M.2.1 m 17 = rv_8 t.2.2.2.1) ∧ (t.1 = 2 → M.1 m 14 = t.2.2.1 ∧ 0 ≤ t.2.2.1 ∧ t.2.2.1 ≤ 999) ∧ (t.1 = 3 → M.1 m 14 = t.2.2.1) ∧ (t.1 ≠ 0 → t.1 ≠ 5 → M.1 m 4 = (t.2.2.2.2 : Int))
theorem rv_tq_of {t : Nat × Nat × Int × List Int × Nat} {m : Nat} {M : mj_M} (h5 : t.1 ≤ 5) (h : rv_tr t m M) : rv_tq t m M := by
  obtain ⟨h0, h1, h2, h3, h4, h55, h12, h44⟩ := h
  refine ⟨?_, h12, fun e => (h1 e).2, fun e => (h2 e).2, fun e => (h3 e).1, h44⟩
  unfold rv_tkc
  split
  · rename_i c
    rcases (h3 c).2 with ⟨e, g⟩ | ⟨e, g⟩
    · rw [if_pos g]; exact e
    · rw [if_neg g]; exact e
  · split
    · rename_i c; exact h55 c
    · rename_i c1 c2
      have : t.1 = 0 ∨ t.1 = 1 ∨ t.1 = 2 ∨ t.1 = 4 := by omega
      rcases this with e | e | e | e
      · rw [h0 e, e]; rfl
      · rw [(h1 e).1, e]; rfl
      · rw [(h2 e).1, e]; rfl
      · rw [h4 e, e]; rfl
/-- where things of the reference lie -/
def rv_B (G : mj_G) (M0 : mj_M) (B : Nat → Int) (n lim m bt ha hd ns rs sx : Nat) : Prop := G m = (1012, 0) ∧ G bt = (50101, 940) ∧ G ha = (52100, 221) ∧ G hd = (56100, 4) ∧ G ns = (54103, 16) ∧ G rs = (55103, 24) ∧ M0.2.2 m 1 = some bt ∧ M0.2.2 m 7 = some ha ∧ M0.2.2 m 23 = some hd ∧ M0.2.2 m 9 = some ns ∧ M0.2.2 m 10 = some rs ∧ (∀ k, rv_u8 (M0.1 bt k) = B k) ∧ (∀ k, k < 24 → M0.2.1 rs k = rv_8 (rv_rs.getD k [])) ∧ n ≤ 940 ∧ lim ≤ 940 ∧ G sx = (51100, 537) ∧ M0.2.2 m 6 = some sx
/-- h against what is read -/
def rv_H (H : Nat → Int) (PL WA : Nat → Int) (TO BI : Nat → Nat → Int) : Prop := H 0 = PL 4 ∧ H 1 = PL 6 ∧ H 2 = PL 7 ∧ H 3 = PL 8 ∧ (∀ t w, t < 8 → w < 9 → H (4 + 9 * t + w) = TO t w) ∧ (∀ w, w < 12 → H (76 + w) = WA w) ∧ (∀ t w, t < 8 → w < 12 → H (88 + 12 * t + w) = BI t w ∧ 0 ≤ BI t w)
def rv_sw (M0 : mj_M) (sx m ha : Nat) (M : mj_M) : Prop := M.1 sx = M0.1 sx ∧ (∀ j, 25 ≤ j → M.1 m j = M0.1 m j) ∧ (∀ j, 184 ≤ j → j < 221 → M.1 ha j = 0) ∧ (∀ a j, a ≠ m → ¬ (M0.2.2 m 9 = some a ∧ 8 ≤ j) → M.2.1 a j = M0.2.1 a j)
theorem rv_sw.m {M0 M : mj_M} {sx m ha j : Nat} {v : Int} (h : rv_sw M0 sx m ha M) (h1 : sx ≠ m) (h2 : ha ≠ m) (hj : j < 25) : rv_sw M0 sx m ha (mj_p0 M m j v) := ⟨(wz_c h1).trans h.1, fun k hk => (hn_n (Or.inr (by omega))).trans (h.2.1 k hk), fun k a b => (hn_n (Or.inl h2)).trans (h.2.2.1 k a b), h.2.2.2⟩
theorem rv_sw.h {M0 M : mj_M} {sx m ha j : Nat} {v : Int} (h : rv_sw M0 sx m ha M) (h1 : sx ≠ ha) (h2 : m ≠ ha) (hj : j < 184) : rv_sw M0 sx m ha (mj_p0 M ha j v) := ⟨(wz_c h1).trans h.1, fun k hk => (hn_n (Or.inl h2)).trans (h.2.1 k hk), fun k a b => (hn_n (Or.inr (by omega))).trans (h.2.2.1 k a b), h.2.2.2⟩
theorem rv_sw.o {M0 M : mj_M} {sx m ha a j : Nat} {v : Int} (h : rv_sw M0 sx m ha M) (h1 : sx ≠ a) (h2 : m ≠ a) (h3 : ha ≠ a) : rv_sw M0 sx m ha (mj_p0 M a j v) := ⟨(wz_c h1).trans h.1, fun k hk => (hn_n (Or.inl h2)).trans (h.2.1 k hk), fun k a b => (hn_n (Or.inl h3)).trans (h.2.2.1 k a b), h.2.2.2⟩
theorem rv_sw.c {M0 M M' : mj_M} {sx m ha : Nat} (h : rv_sw M0 sx m ha M) (oc : ∀ a, a ≠ m → M'.1 a = M.1 a) (om : ∀ k, ¬ k ∈ [4, 11, 12, 13, 14] → M'.1 m k = M.1 m k) (ol : ∀ a, a ≠ m → M'.2.1 a = M.2.1 a) (h1 : sx ≠ m) (h2 : ha ≠ m) : rv_sw M0 sx m ha M' := ⟨(oc sx h1).trans h.1, fun k hk => (om k (fun q => by simp at q; omega)).trans (h.2.1 k hk), fun k a b => by rw [oc ha h2]; exact h.2.2.1 k a b, fun a j ha hn => (congrFun (ol a ha) j).trans (h.2.2.2 a j ha hn)⟩
def rv_R (M0 : mj_M) (n lim m bt ha hd ns rs sx : Nat) (t : Nat × Nat × Int × List Int × Nat) (PL WA OA : Nat → Int) (TO BI : Nat → Nat → Int) (nm : Nat → List Int) (b g z r : Int) (M : mj_M) : Prop :=
  (M.1 m 3 = (n : Int) ∧ M.1 m 5 = (lim : Int) ∧ M.1 m 21 = PL 5 ∧ M.1 m 22 = PL 11 ∧ (∀ k : Nat, k < 3 → rv_bt (M.1 m 20) (k : Int) = PL (12 + k)) ∧ M.1 m 18 = g ∧ M.1 m 24 = z ∧ M.1 m 19 = r) ∧ rv_tq t m M ∧ rv_H (M.1 ha) PL WA TO BI ∧ (∀ s k : Nat, s < 4 → k < 8 → rv_bt (M.1 hd s) (k : Int) = rv_bt (OA k) ((s + 4 : Nat) : Int)) ∧ (∀ k : Nat, (k : Int) < b → M.2.1 ns (8 + k) = rv_8 (nm k) ∧ rv_wo (nm k)) ∧ M.2.2 = M0.2.2 ∧ M.2.1 rs = M0.2.1 rs ∧ M.1 bt = M0.1 bt ∧ rv_sw M0 sx m ha M
section RS
variable {G : mj_G} {M0 M : mj_M} {B : Nat → Int} {n lim m bt ha hd ns rs sx : Nat} {t : Nat × Nat × Int × List Int × Nat} {PL WA OA : Nat → Int} {TO BI : Nat → Nat → Int} {nm : Nat → List Int} {b g z r : Int}
theorem rv_tq.cg {M' : mj_M} (h : rv_tq t m M) (e : ∀ k, k = 4 ∨ k = 11 ∨ k = 12 ∨ k = 14 → M'.1 m k = M.1 m k) (e2 : M'.2.1 m 17 = M.2.1 m 17) : rv_tq t m M' := by
  unfold rv_tq at *
  rw [e 4 (by decide), e 11 (by decide), e 12 (by decide), e 14 (by decide), e2]; exact h
theorem rv_R.srain {v : Int} (hB : rv_B G M0 B n lim m bt ha hd ns rs sx) (h : rv_R M0 n lim m bt ha hd ns rs sx t PL WA OA TO BI nm b g z r M) : rv_R M0 n lim m bt ha hd ns rs sx t (rv_up PL 11 v) WA OA TO BI nm b g z r (mj_p0 M m 22 v) := by
  obtain ⟨gm, gbt, gha, ghd, gns, grs, -, -, -, -, -, -, -, -, -, gsx, -⟩ := hB
  obtain ⟨⟨h3, h5, h21, h22, h20, h18, h24, h19⟩, ht, hh, hd1, hn, e1, e2, e3, e4⟩ := h
  exact ⟨⟨(hn_n (Or.inr (by decide))).trans h3, (hn_n (Or.inr (by decide))).trans h5, ((hn_n (Or.inr (by decide))).trans h21).trans (rv_up_n (by decide)).symm, hn_s.trans rv_up_s.symm, fun k hk => by rw [show (mj_p0 M m 22 v).1 m 20 = M.1 m 20 from hn_n (Or.inr (by decide)), h20 k hk]; exact (rv_up_n (by omega)).symm, (hn_n (Or.inr (by decide))).trans h18, (hn_n (Or.inr (by decide))).trans h24, (hn_n (Or.inr (by decide))).trans h19⟩, ht.cg (fun k hk => hn_n (Or.inr (by omega))) rfl, by
    rw [wz_c (hn_ne gha gm (by decide))]
    obtain ⟨a0, a1, a2, a3, a4⟩ := hh
    exact ⟨a0.trans (rv_up_n (by decide)).symm, a1.trans (rv_up_n (by decide)).symm, a2.trans (rv_up_n (by decide)).symm, a3.trans (rv_up_n (by decide)).symm, a4⟩, fun s k a c => by rw [wz_c (hn_ne ghd gm (by decide))]; exact hd1 s k a c, hn, e1, e2, (wz_c (hn_ne gbt gm (by decide))).trans e3, e4.m (hn_ne gsx gm (by decide)) (hn_ne gha gm (by decide)) (by omega)⟩
theorem rv_R.sbids {v : Int} (hB : rv_B G M0 B n lim m bt ha hd ns rs sx) (h : rv_R M0 n lim m bt ha hd ns rs sx t PL WA OA TO BI nm b g z r M) : rv_R M0 n lim m bt ha hd ns rs sx t (rv_up PL 5 v) WA OA TO BI nm b g z r (mj_p0 M m 21 v) := by
  obtain ⟨gm, gbt, gha, ghd, gns, grs, -, -, -, -, -, -, -, -, -, gsx, -⟩ := hB
  obtain ⟨⟨h3, h5, h21, h22, h20, h18, h24, h19⟩, ht, hh, hd1, hn, e1, e2, e3, e4⟩ := h
  exact ⟨⟨(hn_n (Or.inr (by decide))).trans h3, (hn_n (Or.inr (by decide))).trans h5, hn_s.trans rv_up_s.symm, ((hn_n (Or.inr (by decide))).trans h22).trans (rv_up_n (by decide)).symm, fun k hk => by rw [show (mj_p0 M m 21 v).1 m 20 = M.1 m 20 from hn_n (Or.inr (by decide)), h20 k hk]; exact (rv_up_n (by omega)).symm, (hn_n (Or.inr (by decide))).trans h18, (hn_n (Or.inr (by decide))).trans h24, (hn_n (Or.inr (by decide))).trans h19⟩, ht.cg (fun k hk => hn_n (Or.inr (by omega))) rfl, by
    rw [wz_c (hn_ne gha gm (by decide))]
    obtain ⟨a0, a1, a2, a3, a4⟩ := hh
    exact ⟨a0.trans (rv_up_n (by decide)).symm, a1.trans (rv_up_n (by decide)).symm, a2.trans (rv_up_n (by decide)).symm, a3.trans (rv_up_n (by decide)).symm, a4⟩, fun s k a c => by rw [wz_c (hn_ne ghd gm (by decide))]; exact hd1 s k a c, hn, e1, e2, (wz_c (hn_ne gbt gm (by decide))).trans e3, e4.m (hn_ne gsx gm (by decide)) (hn_ne gha gm (by decide)) (by omega)⟩
theorem rv_R.sgot {v : Int} (hB : rv_B G M0 B n lim m bt ha hd ns rs sx) (h : rv_R M0 n lim m bt ha hd ns rs sx t PL WA OA TO BI nm b g z r M) : rv_R M0 n lim m bt ha hd ns rs sx t PL WA OA TO BI nm b v z r (mj_p0 M m 18 v) := by
  obtain ⟨gm, gbt, gha, ghd, gns, grs, -, -, -, -, -, -, -, -, -, gsx, -⟩ := hB
  obtain ⟨⟨h3, h5, h21, h22, h20, h18, h24, h19⟩, ht, hh, hd1, hn, e1, e2, e3, e4⟩ := h
  exact ⟨⟨(hn_n (Or.inr (by decide))).trans h3, (hn_n (Or.inr (by decide))).trans h5, (hn_n (Or.inr (by decide))).trans h21, (hn_n (Or.inr (by decide))).trans h22, fun k hk => by rw [show (mj_p0 M m 18 v).1 m 20 = M.1 m 20 from hn_n (Or.inr (by decide)), h20 k hk], hn_s, (hn_n (Or.inr (by decide))).trans h24, (hn_n (Or.inr (by decide))).trans h19⟩, ht.cg (fun k hk => hn_n (Or.inr (by omega))) rfl, by rw [wz_c (hn_ne gha gm (by decide))]; exact hh, fun s k a c => by rw [wz_c (hn_ne ghd gm (by decide))]; exact hd1 s k a c, hn, e1, e2, (wz_c (hn_ne gbt gm (by decide))).trans e3, e4.m (hn_ne gsx gm (by decide)) (hn_ne gha gm (by decide)) (by omega)⟩
theorem rv_R.sof {v : Int} (hB : rv_B G M0 B n lim m bt ha hd ns rs sx) (h : rv_R M0 n lim m bt ha hd ns rs sx t PL WA OA TO BI nm b g z r M) : rv_R M0 n lim m bt ha hd ns rs sx t PL WA OA TO BI nm b g v r (mj_p0 M m 24 v) := by
  obtain ⟨gm, gbt, gha, ghd, gns, grs, -, -, -, -, -, -, -, -, -, gsx, -⟩ := hB
  obtain ⟨⟨h3, h5, h21, h22, h20, h18, h24, h19⟩, ht, hh, hd1, hn, e1, e2, e3, e4⟩ := h
  exact ⟨⟨(hn_n (Or.inr (by decide))).trans h3, (hn_n (Or.inr (by decide))).trans h5, (hn_n (Or.inr (by decide))).trans h21, (hn_n (Or.inr (by decide))).trans h22, fun k hk => by rw [show (mj_p0 M m 24 v).1 m 20 = M.1 m 20 from hn_n (Or.inr (by decide)), h20 k hk], (hn_n (Or.inr (by decide))).trans h18, hn_s, (hn_n (Or.inr (by decide))).trans h19⟩, ht.cg (fun k hk => hn_n (Or.inr (by omega))) rfl, by rw [wz_c (hn_ne gha gm (by decide))]; exact hh, fun s k a c => by rw [wz_c (hn_ne ghd gm (by decide))]; exact hd1 s k a c, hn, e1, e2, (wz_c (hn_ne gbt gm (by decide))).trans e3, e4.m (hn_ne gsx gm (by decide)) (hn_ne gha gm (by decide)) (by omega)⟩
theorem rv_R.srow {v : Int} (hB : rv_B G M0 B n lim m bt ha hd ns rs sx) (h : rv_R M0 n lim m bt ha hd ns rs sx t PL WA OA TO BI nm b g z r M) : rv_R M0 n lim m bt ha hd ns rs sx t PL WA OA TO BI nm b g z v (mj_p0 M m 19 v) := by
  obtain ⟨gm, gbt, gha, ghd, gns, grs, -, -, -, -, -, -, -, -, -, gsx, -⟩ := hB
  obtain ⟨⟨h3, h5, h21, h22, h20, h18, h24, h19⟩, ht, hh, hd1, hn, e1, e2, e3, e4⟩ := h
  exact ⟨⟨(hn_n (Or.inr (by decide))).trans h3, (hn_n (Or.inr (by decide))).trans h5, (hn_n (Or.inr (by decide))).trans h21, (hn_n (Or.inr (by decide))).trans h22, fun k hk => by rw [show (mj_p0 M m 19 v).1 m 20 = M.1 m 20 from hn_n (Or.inr (by decide)), h20 k hk], (hn_n (Or.inr (by decide))).trans h18, (hn_n (Or.inr (by decide))).trans h24, hn_s⟩, ht.cg (fun k hk => hn_n (Or.inr (by omega))) rfl, by rw [wz_c (hn_ne gha gm (by decide))]; exact hh, fun s k a c => by rw [wz_c (hn_ne ghd gm (by decide))]; exact hd1 s k a c, hn, e1, e2, (wz_c (hn_ne gbt gm (by decide))).trans e3, e4.m (hn_ne gsx gm (by decide)) (hn_ne gha gm (by decide)) (by omega)⟩
theorem rv_R.sonce {k : Nat} (hB : rv_B G M0 B n lim m bt ha hd ns rs sx) (h : rv_R M0 n lim m bt ha hd ns rs sx t PL WA OA TO BI nm b g z r M) (hk : k < 3) : rv_R M0 n lim m bt ha hd ns rs sx t (rv_up PL (12 + k) 1) WA OA TO BI nm b g z r (mj_p0 M m 20 (rv_bs (M.1 m 20) (k : Int))) := by
  obtain ⟨gm, gbt, gha, ghd, gns, grs, -, -, -, -, -, -, -, -, -, gsx, -⟩ := hB
  obtain ⟨⟨h3, h5, h21, h22, h20, h18, h24, h19⟩, ht, hh, hd1, hn, e1, e2, e3, e4⟩ := h
  refine ⟨⟨(hn_n (Or.inr (by decide))).trans h3, (hn_n (Or.inr (by decide))).trans h5, ((hn_n (Or.inr (by decide))).trans h21).trans (rv_up_n (by omega)).symm, ((hn_n (Or.inr (by decide))).trans h22).trans (rv_up_n (by omega)).symm, fun j hj => ?_, (hn_n (Or.inr (by decide))).trans h18, (hn_n (Or.inr (by decide))).trans h24, (hn_n (Or.inr (by decide))).trans h19⟩, ht.cg (fun k hk => hn_n (Or.inr (by omega))) rfl, ?_, fun s k a c => by rw [wz_c (hn_ne ghd gm (by decide))]; exact hd1 s k a c, hn, e1, e2, (wz_c (hn_ne gbt gm (by decide))).trans e3, e4.m (hn_ne gsx gm (by decide)) (hn_ne gha gm (by decide)) (by omega)⟩
  · rw [hn_s, rv_bs_b _ j k (by omega) (by omega)]
    by_cases c : j = k
    · rw [if_pos c, c]; exact rv_up_s.symm
    · rw [if_neg c, h20 j hj]; exact (rv_up_n (by omega)).symm
  · rw [wz_c (hn_ne gha gm (by decide))]
    obtain ⟨a0, a1, a2, a3, a4⟩ := hh
    exact ⟨a0.trans (rv_up_n (by omega)).symm, a1.trans (rv_up_n (by omega)).symm, a2.trans (rv_up_n (by omega)).symm, a3.trans (rv_up_n (by omega)).symm, a4⟩
theorem rv_R.htold {j k i : Nat} {v : Int} (hB : rv_B G M0 B n lim m bt ha hd ns rs sx) (h : rv_R M0 n lim m bt ha hd ns rs sx t PL WA OA TO BI nm b g z r M) (hj : j = 4 + 9 * k + i) (hk : k < 8) (hi : i < 9) : rv_R M0 n lim m bt ha hd ns rs sx t PL WA OA (rv_up2 TO k i v) BI nm b g z r (mj_p0 M ha j v) := by
  obtain ⟨gm, gbt, gha, ghd, gns, grs, -, -, -, -, -, -, -, -, -, gsx, -⟩ := hB
  obtain ⟨⟨h3, h5, h21, h22, h20, h18, h24, h19⟩, ht, ⟨a0, a1, a2, a3, a4, a5, a6⟩, hd1, hn, e1, e2, e3, e4⟩ := h
  have cm : ∀ k, (mj_p0 M ha j v).1 m k = M.1 m k := fun k => hn_n (Or.inl (hn_ne gm gha (by decide)))
  subst hj
  refine ⟨⟨(cm _).trans h3, (cm _).trans h5, ((cm _).trans h21), ((cm _).trans h22), fun k hk => by rw [cm, h20 k hk], (cm _).trans h18, (cm _).trans h24, (cm _).trans h19⟩, ht.cg (fun k _ => cm k) rfl, ?_, fun s k a c => by rw [wz_c (hn_ne ghd gha (by decide))]; exact hd1 s k a c, hn, e1, e2, (wz_c (hn_ne gbt gha (by decide))).trans e3, e4.h (hn_ne gsx gha (by decide)) (hn_ne gm gha (by decide)) (by omega)⟩
  rw [wz_u]
  refine ⟨(rv_up_n (by omega)).trans a0, (rv_up_n (by omega)).trans a1, (rv_up_n (by omega)).trans a2, (rv_up_n (by omega)).trans a3, fun t w ht hw => ?_, fun w hw => (rv_up_n (by omega)).trans (a5 w hw), fun t w ht hw => ⟨(rv_up_n (by omega)).trans (a6 t w ht hw).1, (a6 t w ht hw).2⟩⟩
  by_cases c : t = k ∧ w = i
  · rw [c.1, c.2, rv_up2_s]; exact rv_up_s
  · rw [rv_up_n (by omega), a4 t w ht hw]
    by_cases c2 : t = k
    · rw [c2]; exact (rv_up2_n (fun e => c ⟨c2, e⟩)).symm
    · exact (congrFun (rv_up2_o c2) w).symm
theorem rv_R.hwat {j i : Nat} {v : Int} (hB : rv_B G M0 B n lim m bt ha hd ns rs sx) (h : rv_R M0 n lim m bt ha hd ns rs sx t PL WA OA TO BI nm b g z r M) (hj : j = 76 + i) (hi : i < 12) : rv_R M0 n lim m bt ha hd ns rs sx t PL (rv_up WA i v) OA TO BI nm b g z r (mj_p0 M ha j v) := by
  obtain ⟨gm, gbt, gha, ghd, gns, grs, -, -, -, -, -, -, -, -, -, gsx, -⟩ := hB
  obtain ⟨⟨h3, h5, h21, h22, h20, h18, h24, h19⟩, ht, ⟨a0, a1, a2, a3, a4, a5, a6⟩, hd1, hn, e1, e2, e3, e4⟩ := h
  have cm : ∀ k, (mj_p0 M ha j v).1 m k = M.1 m k := fun k => hn_n (Or.inl (hn_ne gm gha (by decide)))
  subst hj
  refine ⟨⟨(cm _).trans h3, (cm _).trans h5, ((cm _).trans h21), ((cm _).trans h22), fun k hk => by rw [cm, h20 k hk], (cm _).trans h18, (cm _).trans h24, (cm _).trans h19⟩, ht.cg (fun k _ => cm k) rfl, ?_, fun s k a c => by rw [wz_c (hn_ne ghd gha (by decide))]; exact hd1 s k a c, hn, e1, e2, (wz_c (hn_ne gbt gha (by decide))).trans e3, e4.h (hn_ne gsx gha (by decide)) (hn_ne gm gha (by decide)) (by omega)⟩
  rw [wz_u]
  refine ⟨(rv_up_n (by omega)).trans a0, (rv_up_n (by omega)).trans a1, (rv_up_n (by omega)).trans a2, (rv_up_n (by omega)).trans a3, fun t w ht hw => (rv_up_n (by omega)).trans (a4 t w ht hw), fun w hw => ?_, fun t w ht hw => ⟨(rv_up_n (by omega)).trans (a6 t w ht hw).1, (a6 t w ht hw).2⟩⟩
  by_cases c : w = i
  · rw [c]; exact rv_up_s.trans rv_up_s.symm
  · rw [rv_up_n (by omega), a5 w hw]; exact (rv_up_n c).symm
theorem rv_R.hbid {j k i : Nat} {v : Int} (hB : rv_B G M0 B n lim m bt ha hd ns rs sx) (h : rv_R M0 n lim m bt ha hd ns rs sx t PL WA OA TO BI nm b g z r M) (hj : j = 88 + 12 * k + i) (hk : k < 8) (hi : i < 12) (hv : 0 ≤ v) : rv_R M0 n lim m bt ha hd ns rs sx t PL WA OA TO (rv_up2 BI k i v) nm b g z r (mj_p0 M ha j v) := by
  obtain ⟨gm, gbt, gha, ghd, gns, grs, -, -, -, -, -, -, -, -, -, gsx, -⟩ := hB
  obtain ⟨⟨h3, h5, h21, h22, h20, h18, h24, h19⟩, ht, ⟨a0, a1, a2, a3, a4, a5, a6⟩, hd1, hn, e1, e2, e3, e4⟩ := h
  have cm : ∀ k, (mj_p0 M ha j v).1 m k = M.1 m k := fun k => hn_n (Or.inl (hn_ne gm gha (by decide)))
  subst hj
  refine ⟨⟨(cm _).trans h3, (cm _).trans h5, ((cm _).trans h21), ((cm _).trans h22), fun k hk => by rw [cm, h20 k hk], (cm _).trans h18, (cm _).trans h24, (cm _).trans h19⟩, ht.cg (fun k _ => cm k) rfl, ?_, fun s k a c => by rw [wz_c (hn_ne ghd gha (by decide))]; exact hd1 s k a c, hn, e1, e2, (wz_c (hn_ne gbt gha (by decide))).trans e3, e4.h (hn_ne gsx gha (by decide)) (hn_ne gm gha (by decide)) (by omega)⟩
  rw [wz_u]
  refine ⟨(rv_up_n (by omega)).trans a0, (rv_up_n (by omega)).trans a1, (rv_up_n (by omega)).trans a2, (rv_up_n (by omega)).trans a3, fun t w ht hw => (rv_up_n (by omega)).trans (a4 t w ht hw), fun w hw => (rv_up_n (by omega)).trans (a5 w hw), fun t w ht hw => ?_⟩
  by_cases c : t = k ∧ w = i
  · rw [c.1, c.2, rv_up2_s]; exact ⟨rv_up_s, hv⟩
  · rw [rv_up_n (by omega), (a6 t w ht hw).1]
    by_cases c2 : t = k
    · rw [c2, rv_up2_n (fun e => c ⟨c2, e⟩)]; exact ⟨rfl, by rw [← c2]; exact (a6 t w ht hw).2⟩
    · rw [rv_up2_o c2]; exact ⟨rfl, (a6 t w ht hw).2⟩
theorem rv_R.htow {j  : Nat} {v : Int} (hB : rv_B G M0 B n lim m bt ha hd ns rs sx) (h : rv_R M0 n lim m bt ha hd ns rs sx t PL WA OA TO BI nm b g z r M) (hj : j = 0)  : rv_R M0 n lim m bt ha hd ns rs sx t (rv_up PL 4 v) WA OA TO BI nm b g z r (mj_p0 M ha j v) := by
  obtain ⟨gm, gbt, gha, ghd, gns, grs, -, -, -, -, -, -, -, -, -, gsx, -⟩ := hB
  obtain ⟨⟨h3, h5, h21, h22, h20, h18, h24, h19⟩, ht, ⟨a0, a1, a2, a3, a4, a5, a6⟩, hd1, hn, e1, e2, e3, e4⟩ := h
  have cm : ∀ k, (mj_p0 M ha j v).1 m k = M.1 m k := fun k => hn_n (Or.inl (hn_ne gm gha (by decide)))
  subst hj
  refine ⟨⟨(cm _).trans h3, (cm _).trans h5, ((cm _).trans h21).trans (rv_up_n (by decide)).symm, ((cm _).trans h22).trans (rv_up_n (by decide)).symm, fun k hk => by rw [cm, h20 k hk]; exact (rv_up_n (by omega)).symm, (cm _).trans h18, (cm _).trans h24, (cm _).trans h19⟩, ht.cg (fun k _ => cm k) rfl, ?_, fun s k a c => by rw [wz_c (hn_ne ghd gha (by decide))]; exact hd1 s k a c, hn, e1, e2, (wz_c (hn_ne gbt gha (by decide))).trans e3, e4.h (hn_ne gsx gha (by decide)) (hn_ne gm gha (by decide)) (by omega)⟩
  rw [wz_u]
  exact ⟨rv_up_s.trans rv_up_s.symm, ((rv_up_n (by decide)).trans a1).trans (rv_up_n (by decide)).symm, ((rv_up_n (by decide)).trans a2).trans (rv_up_n (by decide)).symm, ((rv_up_n (by decide)).trans a3).trans (rv_up_n (by decide)).symm, fun t w ht hw => (rv_up_n (by omega)).trans (a4 t w ht hw), fun w hw => (rv_up_n (by omega)).trans (a5 w hw), fun t w ht hw => ⟨(rv_up_n (by omega)).trans (a6 t w ht hw).1, (a6 t w ht hw).2⟩⟩
theorem rv_R.hval0 {j  : Nat} {v : Int} (hB : rv_B G M0 B n lim m bt ha hd ns rs sx) (h : rv_R M0 n lim m bt ha hd ns rs sx t PL WA OA TO BI nm b g z r M) (hj : j = 1)  : rv_R M0 n lim m bt ha hd ns rs sx t (rv_up PL 6 v) WA OA TO BI nm b g z r (mj_p0 M ha j v) := by
  obtain ⟨gm, gbt, gha, ghd, gns, grs, -, -, -, -, -, -, -, -, -, gsx, -⟩ := hB
  obtain ⟨⟨h3, h5, h21, h22, h20, h18, h24, h19⟩, ht, ⟨a0, a1, a2, a3, a4, a5, a6⟩, hd1, hn, e1, e2, e3, e4⟩ := h
  have cm : ∀ k, (mj_p0 M ha j v).1 m k = M.1 m k := fun k => hn_n (Or.inl (hn_ne gm gha (by decide)))
  subst hj
  refine ⟨⟨(cm _).trans h3, (cm _).trans h5, ((cm _).trans h21).trans (rv_up_n (by decide)).symm, ((cm _).trans h22).trans (rv_up_n (by decide)).symm, fun k hk => by rw [cm, h20 k hk]; exact (rv_up_n (by omega)).symm, (cm _).trans h18, (cm _).trans h24, (cm _).trans h19⟩, ht.cg (fun k _ => cm k) rfl, ?_, fun s k a c => by rw [wz_c (hn_ne ghd gha (by decide))]; exact hd1 s k a c, hn, e1, e2, (wz_c (hn_ne gbt gha (by decide))).trans e3, e4.h (hn_ne gsx gha (by decide)) (hn_ne gm gha (by decide)) (by omega)⟩
  rw [wz_u]
  exact ⟨((rv_up_n (by decide)).trans a0).trans (rv_up_n (by decide)).symm, rv_up_s.trans rv_up_s.symm, ((rv_up_n (by decide)).trans a2).trans (rv_up_n (by decide)).symm, ((rv_up_n (by decide)).trans a3).trans (rv_up_n (by decide)).symm, fun t w ht hw => (rv_up_n (by omega)).trans (a4 t w ht hw), fun w hw => (rv_up_n (by omega)).trans (a5 w hw), fun t w ht hw => ⟨(rv_up_n (by omega)).trans (a6 t w ht hw).1, (a6 t w ht hw).2⟩⟩
theorem rv_R.hval1 {j  : Nat} {v : Int} (hB : rv_B G M0 B n lim m bt ha hd ns rs sx) (h : rv_R M0 n lim m bt ha hd ns rs sx t PL WA OA TO BI nm b g z r M) (hj : j = 2)  : rv_R M0 n lim m bt ha hd ns rs sx t (rv_up PL 7 v) WA OA TO BI nm b g z r (mj_p0 M ha j v) := by
  obtain ⟨gm, gbt, gha, ghd, gns, grs, -, -, -, -, -, -, -, -, -, gsx, -⟩ := hB
  obtain ⟨⟨h3, h5, h21, h22, h20, h18, h24, h19⟩, ht, ⟨a0, a1, a2, a3, a4, a5, a6⟩, hd1, hn, e1, e2, e3, e4⟩ := h
  have cm : ∀ k, (mj_p0 M ha j v).1 m k = M.1 m k := fun k => hn_n (Or.inl (hn_ne gm gha (by decide)))
  subst hj
  refine ⟨⟨(cm _).trans h3, (cm _).trans h5, ((cm _).trans h21).trans (rv_up_n (by decide)).symm, ((cm _).trans h22).trans (rv_up_n (by decide)).symm, fun k hk => by rw [cm, h20 k hk]; exact (rv_up_n (by omega)).symm, (cm _).trans h18, (cm _).trans h24, (cm _).trans h19⟩, ht.cg (fun k _ => cm k) rfl, ?_, fun s k a c => by rw [wz_c (hn_ne ghd gha (by decide))]; exact hd1 s k a c, hn, e1, e2, (wz_c (hn_ne gbt gha (by decide))).trans e3, e4.h (hn_ne gsx gha (by decide)) (hn_ne gm gha (by decide)) (by omega)⟩
  rw [wz_u]
  exact ⟨((rv_up_n (by decide)).trans a0).trans (rv_up_n (by decide)).symm, ((rv_up_n (by decide)).trans a1).trans (rv_up_n (by decide)).symm, rv_up_s.trans rv_up_s.symm, ((rv_up_n (by decide)).trans a3).trans (rv_up_n (by decide)).symm, fun t w ht hw => (rv_up_n (by omega)).trans (a4 t w ht hw), fun w hw => (rv_up_n (by omega)).trans (a5 w hw), fun t w ht hw => ⟨(rv_up_n (by omega)).trans (a6 t w ht hw).1, (a6 t w ht hw).2⟩⟩
theorem rv_R.hval2 {j  : Nat} {v : Int} (hB : rv_B G M0 B n lim m bt ha hd ns rs sx) (h : rv_R M0 n lim m bt ha hd ns rs sx t PL WA OA TO BI nm b g z r M) (hj : j = 3)  : rv_R M0 n lim m bt ha hd ns rs sx t (rv_up PL 8 v) WA OA TO BI nm b g z r (mj_p0 M ha j v) := by
  obtain ⟨gm, gbt, gha, ghd, gns, grs, -, -, -, -, -, -, -, -, -, gsx, -⟩ := hB
  obtain ⟨⟨h3, h5, h21, h22, h20, h18, h24, h19⟩, ht, ⟨a0, a1, a2, a3, a4, a5, a6⟩, hd1, hn, e1, e2, e3, e4⟩ := h
  have cm : ∀ k, (mj_p0 M ha j v).1 m k = M.1 m k := fun k => hn_n (Or.inl (hn_ne gm gha (by decide)))
  subst hj
  refine ⟨⟨(cm _).trans h3, (cm _).trans h5, ((cm _).trans h21).trans (rv_up_n (by decide)).symm, ((cm _).trans h22).trans (rv_up_n (by decide)).symm, fun k hk => by rw [cm, h20 k hk]; exact (rv_up_n (by omega)).symm, (cm _).trans h18, (cm _).trans h24, (cm _).trans h19⟩, ht.cg (fun k _ => cm k) rfl, ?_, fun s k a c => by rw [wz_c (hn_ne ghd gha (by decide))]; exact hd1 s k a c, hn, e1, e2, (wz_c (hn_ne gbt gha (by decide))).trans e3, e4.h (hn_ne gsx gha (by decide)) (hn_ne gm gha (by decide)) (by omega)⟩
  rw [wz_u]
  exact ⟨((rv_up_n (by decide)).trans a0).trans (rv_up_n (by decide)).symm, ((rv_up_n (by decide)).trans a1).trans (rv_up_n (by decide)).symm, ((rv_up_n (by decide)).trans a2).trans (rv_up_n (by decide)).symm, rv_up_s.trans rv_up_s.symm, fun t w ht hw => (rv_up_n (by omega)).trans (a4 t w ht hw), fun w hw => (rv_up_n (by omega)).trans (a5 w hw), fun t w ht hw => ⟨(rv_up_n (by omega)).trans (a6 t w ht hw).1, (a6 t w ht hw).2⟩⟩
theorem rv_R.shad {s k : Nat} (hB : rv_B G M0 B n lim m bt ha hd ns rs sx) (h : rv_R M0 n lim m bt ha hd ns rs sx t PL WA OA TO BI nm b g z r M) (hs : s < 4) (hk : k < 8) : rv_R M0 n lim m bt ha hd ns rs sx t PL WA (rv_up OA k (rv_bs (OA k) ((s + 4 : Nat) : Int))) TO BI nm b g z r (mj_p0 M hd s (rv_bs (M.1 hd s) (k : Int))) := by
  obtain ⟨gm, gbt, gha, ghd, gns, grs, -, -, -, -, -, -, -, -, -, gsx, -⟩ := hB
  obtain ⟨⟨h3, h5, h21, h22, h20, h18, h24, h19⟩, ht, hh, hd1, hn, e1, e2, e3, e4⟩ := h
  have cm : ∀ j, (mj_p0 M hd s (rv_bs (M.1 hd s) (k : Int))).1 m j = M.1 m j := fun j => hn_n (Or.inl (hn_ne gm ghd (by decide)))
  refine ⟨⟨(cm _).trans h3, (cm _).trans h5, (cm _).trans h21, (cm _).trans h22, fun k hk => by rw [cm, h20 k hk], (cm _).trans h18, (cm _).trans h24, (cm _).trans h19⟩, ht.cg (fun k _ => cm k) rfl, by rw [wz_c (hn_ne gha ghd (by decide))]; exact hh, fun s' k' a c => ?_, hn, e1, e2, (wz_c (hn_ne gbt ghd (by decide))).trans e3, e4.o (hn_ne gsx ghd (by decide)) (hn_ne gm ghd (by decide)) (hn_ne gha ghd (by decide))⟩
  rw [wz_u]
  by_cases cs : s' = s
  · rw [cs, rv_up_s, rv_bs_b _ k' k (by omega) (by omega)]
    by_cases ck : k' = k
    · rw [if_pos ck, ck, rv_up_s, rv_bs_b _ (s + 4) (s + 4) (by omega) (by omega), if_pos rfl]
    · rw [if_neg ck, rv_up_n ck]; exact hd1 s k' hs c
  · rw [rv_up_n cs, hd1 s' k' a c]
    by_cases ck : k' = k
    · rw [ck, rv_up_s, rv_bs_b _ (s' + 4) (s + 4) (by omega) (by omega), if_neg (by omega)]
    · rw [rv_up_n ck]
theorem rv_R.snm {j k : Nat} {w : List Int} (hB : rv_B G M0 B n lim m bt ha hd ns rs sx) (h : rv_R M0 n lim m bt ha hd ns rs sx t PL WA OA TO BI nm b g z r M) (hj : j = 8 + k) (hb : b = (k : Int)) (hw : rv_wo w) : rv_R M0 n lim m bt ha hd ns rs sx t PL WA OA TO BI (rv_upn nm k w) ((k : Int) + 1) g z r (mj_p1 M ns j (rv_8 w)) := by
  obtain ⟨gm, gbt, gha, ghd, gns, grs, -, -, -, r9, -, -, -, -, -, gsx, -⟩ := hB
  obtain ⟨h0, ht, hh, hd1, hn, e1, e2, e3, e4⟩ := h
  refine ⟨h0, ht.cg (fun _ _ => rfl) (wz_nl (Or.inl (hn_ne gm gns (by decide)))), hh, hd1, fun s hs => ?_, e1, (funext fun k => wz_nl (Or.inl (hn_ne grs gns (by decide)))).trans e2, e3, e4.1, e4.2.1, e4.2.2.1, fun a j' ha hn => (wz_nl ?_).trans (e4.2.2.2 a j' ha hn)⟩
  rotate_left
  · by_cases c : a = ns
    · exact Or.inr (fun e => hn ⟨by rw [c]; exact r9, by omega⟩)
    · exact Or.inl c
  subst hj
  unfold rv_upn
  by_cases c : s = k
  · rw [if_pos c, c]; exact ⟨wz_sl, hw⟩
  · rw [if_neg c]; exact ⟨(wz_nl (Or.inr (by omega))).trans (hn s (by omega)).1, (hn s (by omega)).2⟩
/-- a fault of the reference -/
def rv_FR (M0 : mj_M) (m sx ha : Nat) (f : Int) (a : Nat) (M : mj_M) : Prop := M.1 m 15 = f ∧ M.1 m 16 = (a : Int) ∧ rv_sw M0 sx m ha M
theorem r_nxt {d q : Nat} {Q : mj_P} (hB : rv_B G M0 B n lim m bt ha hd ns rs sx) (h : rv_R M0 n lim m bt ha hd ns rs sx t PL WA OA TO BI nm b g z r M) (hk : t.1 ≠ 0) (hk5 : t.1 ≠ 5) (hp : t.2.2.2.2 = q) (hq : q ≤ n) (hQ : ∀ M', rv_R M0 n lim m bt ha hd ns rs sx (rv_T B n lim q) PL WA OA TO BI nm b g z r M' → Q none G M') : mj_R mj_tab (d + 2) 216 [.inr (.inr (some m))] G M Q := by
  obtain ⟨gm, gbt, gha, ghd, gns, grs, r1, r7, r23, r9, r10, rb, rr, n1, n2, gsx, r6⟩ := hB
  obtain ⟨⟨h3, h5, h21, h22, h20, h18, h24, h19⟩, ht, hh, hd1, hn, e1, e2, e3, e4⟩ := h
  refine r_X12_next (d := d) (B := B) (n := n) (lim := lim) (p := q) gm gbt n1 (by rw [e1]; exact r1) h3 h5 (by rw [ht.2.2.2.2.2 hk hk5, hp]) (fun k => by rw [e3]; exact rb k) (fun M' hM => hQ M' ?_)
  obtain ⟨o1, o2, o3, -⟩ := id hM
  have oc : ∀ a, a ≠ m → M'.1 a = M.1 a := fun a ha => funext fun k => o1 a k (fun e => ha e.1)
  have om : ∀ k, ¬ k ∈ [4, 11, 12, 13, 14] → M'.1 m k = M.1 m k := fun k hk => o1 m k (fun e => hk e.2)
  have ol : ∀ a, a ≠ m → M'.2.1 a = M.2.1 a := fun a ha => funext fun k => o2 a k (fun e => ha e.1)
  refine ⟨⟨(om 3 (by decide)).trans h3, (om 5 (by decide)).trans h5, (om 21 (by decide)).trans h21, (om 22 (by decide)).trans h22, fun k hk => by rw [om 20 (by decide)]; exact h20 k hk, (om 18 (by decide)).trans h18, (om 24 (by decide)).trans h24, (om 19 (by decide)).trans h19⟩, rv_tq_of (rv_T_w hq).1 (rv_nx_T hq hM), by rw [oc ha (hn_ne gha gm (by decide))]; exact hh, fun s k a c => by rw [oc hd (hn_ne ghd gm (by decide))]; exact hd1 s k a c, fun k hk => ⟨(congrFun (ol ns (hn_ne gns gm (by decide))) _).trans (hn k hk).1, (hn k hk).2⟩, o3.trans e1, (ol rs (hn_ne grs gm (by decide))).trans e2, (oc bt (hn_ne gbt gm (by decide))).trans e3, e4.c oc om ol (hn_ne gsx gm (by decide)) (hn_ne gha gm (by decide))⟩
end RS
end
section
/-! ===== the reference's leaf readers (laid by a program) ===== -/
def rv_BT (G : mj_G) (M0 : mj_M) (B : Nat → Int) (n lim m bt ha hd ns rs sx : Nat) (T : Nat → Nat × Nat × Int × List Int × Nat) : Prop := rv_B G M0 B n lim m bt ha hd ns rs sx ∧ T = rv_T B n lim
theorem w_rem {d : Nat} {full : List mj_E} {Q : mj_P} {rest : List mj_E} {L : mj_L} {st : List mj_V} {G : mj_G} {M : mj_M} {cb sb pc : Nat} {aux : List Nat} {im : Int} {x y : Int} (hy : y ≠ 0) (kk : ∀ z, mj_in z → z = (Int32.ofInt x - Int32.ofInt x / Int32.ofInt y * Int32.ofInt y).toInt → wz d full Q rest L (.inl z :: st) G M cb sb) : wz d full Q ((.irem, pc, aux, im) :: rest) L (.inl y :: .inl x :: st) G M cb sb := wz_st ⟨hy, kk⟩
theorem sp_nam.bad {T : Nat → Nat × Nat × Int × List Int × Nat} {p : Nat} {Kf : Int → Nat → Prop} {Ko : Prop} (h : sp_nam T p Kf Ko) (c : ¬ ((T p).1 = 1 ∧ rv_nam (T p).2.2.2.1)) : Kf 1 (T p).2.1 := by
  by_cases e : (T p).1 = 1
  · exact (h.1 e).2 (fun g => c ⟨e, g⟩)
  · exact h.2 e
theorem rv_rs_8 : ∀ j, j < 24 → ∀ W : Int64, W = rv_8 (rv_rs.getD j []) → rv_8 (rv_rs.getD j []) = W := fun _ _ _ h => h.symm
theorem rv_y_w {G : mj_G} {M0 : mj_M} {B : Nat → Int} {n lim m bt ha hd ns rs sx : Nat} {T : Nat → Nat × Nat × Int × List Int × Nat} {q : Nat} (hB : rv_BT G M0 B n lim m bt ha hd ns rs sx T) (h : q ≤ n) : rv_tw n q (T q) := by rw [hB.2]; exact rv_T_w h
theorem rv_y_le {G : mj_G} {M0 : mj_M} {B : Nat → Int} {n lim m bt ha hd ns rs sx : Nat} {T : Nat → Nat × Nat × Int × List Int × Nat} {q : Nat} (hB : rv_BT G M0 B n lim m bt ha hd ns rs sx T) (h : q ≤ n) : rv_x T q ≤ n := (rv_y_w hB h).2.2.2.2.2
theorem rv_y_ge {G : mj_G} {M0 : mj_M} {B : Nat → Int} {n lim m bt ha hd ns rs sx : Nat} {T : Nat → Nat × Nat × Int × List Int × Nat} {q : Nat} (hB : rv_BT G M0 B n lim m bt ha hd ns rs sx T) (h : q ≤ n) : q ≤ rv_x T q := (rv_y_w hB h).2.1
theorem rv_y_wo {G : mj_G} {M0 : mj_M} {B : Nat → Int} {n lim m bt ha hd ns rs sx : Nat} {T : Nat → Nat × Nat × Int × List Int × Nat} {q : Nat} (hB : rv_BT G M0 B n lim m bt ha hd ns rs sx T) (h : q ≤ n) (h1 : (T q).1 = 1) : rv_wo (T q).2.2.2.1 := (rv_y_w hB h).2.2.2.2.1 h1
theorem r_nxtT {G : mj_G} {M0 M : mj_M} {B : Nat → Int} {n lim m bt ha hd ns rs sx : Nat} {T : Nat → Nat × Nat × Int × List Int × Nat} {PL WA OA : Nat → Int} {TO BI : Nat → Nat → Int} {nm : Nat → List Int} {b g z r : Int} {Q : mj_P} {d q : Nat} (hB : rv_BT G M0 B n lim m bt ha hd ns rs sx T) (h : rv_R M0 n lim m bt ha hd ns rs sx (T q) PL WA OA TO BI nm b g z r M) (hk : (T q).1 ≠ 0) (hk5 : (T q).1 ≠ 5) (hq : q ≤ n) (hQ : ∀ M', rv_R M0 n lim m bt ha hd ns rs sx (T (rv_x T q)) PL WA OA TO BI nm b g z r M' → Q none G M') : mj_R mj_tab (d + 2) 216 [.inr (.inr (some m))] G M Q := r_nxt hB.1 h hk hk5 rfl (rv_y_le hB hq) (fun M' h' => hQ M' (by rw [hB.2]; rw [hB.2] at h'; exact h'))
theorem r_X12_bad2 {G : mj_G} {M0 M : mj_M} {B : Nat → Int} {n lim m bt ha hd ns rs sx : Nat} {T : Nat → Nat × Nat × Int × List Int × Nat} {PL WA OA : Nat → Int} {TO BI : Nat → Nat → Int} {nm : Nat → List Int} {b g z r : Int} {Q : mj_P} {d : Nat} {f : Int} {t : Nat × Nat × Int × List Int × Nat} (hB : rv_BT G M0 B n lim m bt ha hd ns rs sx T) (hS : rv_R M0 n lim m bt ha hd ns rs sx t PL WA OA TO BI nm b g z r M) (hQ : ∀ M', rv_FR M0 m sx ha f t.2.1 M' → Q (some (.inl 0)) G M') : mj_R mj_tab (d + 1) 161 [.inr (.inr (some m)), .inl f] G M Q := by
  have gm := hB.1.1
  refine ⟨Nat.le_of_ble_eq_true rfl, ?_⟩
  show wz d mt_X12_bad.2.2.2.2.1 Q mt_X12_bad.2.2.2.2.1 [some (.inr (.inr (some m))), some (.inl f)] [] G M _ _
  refine w_aln rfl ?_
  refine w_iln rfl ?_
  refine w_pi gm rfl (by decide) rfl (fun q => by cases q) ?_
  refine w_aln rfl ?_
  refine w_aln rfl ?_
  refine w_gi gm rfl (by decide) rfl rfl ?_
  refine w_pi gm rfl (by decide) rfl (fun q => by cases q) ?_
  refine w_ic ?_
  exact w_iret (fun _ => Or.inl rfl) (hQ _ ⟨(hn_n (Or.inr (by decide))).trans hn_s, hn_s.trans ((hn_n (Or.inr (by decide))).trans hS.2.1.2.1), (hS.2.2.2.2.2.2.2.2.m (hn_ne hB.1.2.2.2.2.2.2.2.2.2.2.2.2.2.2.2.1 gm (by decide)) (hn_ne hB.1.2.2.1 gm (by decide)) (by decide)).m (hn_ne hB.1.2.2.2.2.2.2.2.2.2.2.2.2.2.2.2.1 gm (by decide)) (hn_ne hB.1.2.2.1 gm (by decide)) (by decide)⟩)
theorem r_isWord1 {G : mj_G} {M0 M : mj_M} {B : Nat → Int} {n lim m bt ha hd ns rs sx : Nat} {T : Nat → Nat × Nat × Int × List Int × Nat} {PL WA OA : Nat → Int} {TO BI : Nat → Nat → Int} {nm : Nat → List Int} {b g z r : Int} {Q : mj_P} {d q : Nat} {i : Nat} {W : Int64} (hB : rv_BT G M0 B n lim m bt ha hd ns rs sx T) (hS : rv_R M0 n lim m bt ha hd ns rs sx (T q) PL WA OA TO BI nm b g z r M) (hqn : q ≤ n) (hi : i < 24) (hW : rv_8 (rv_rs.getD i []) = W) (hc : ((T q).1 = 1 ∧ rv_rs.getD i [] = (T q).2.2.2.1)) (hQ : Q (some (.inl 1)) G M) : mj_R mj_tab (d + 1) 206 [.inr (.inr (some m)), .inr (.inl W)] G M Q := by
  obtain ⟨⟨gm, gbt, gha, ghd, gns, grs, r1, r7, r23, r9, r10, rb, rr, n1, n2, gsx, r6⟩, hT⟩ := id hB
  have hk := rv_tkc_f (rv_y_w hB hqn).1
  refine ⟨Nat.le_of_ble_eq_true rfl, ?_⟩
  show wz d mt_X12_isWord.2.2.2.2.1 Q mt_X12_isWord.2.2.2.2.1 [some (.inr (.inr (some m))), some (.inr (.inl W)), none] [] G M _ _
  refine w_aln rfl ?_
  refine w_gi gm rfl (by decide) rfl hS.2.1.1 ?_
  refine w_ic ?_
  have h1 := hc.1
  refine w_cmne (fun c => by exfalso; omega) (fun c => ?_)
  refine w_aln rfl ?_
  refine w_gl gm rfl (by decide) rfl (hS.2.1.2.2.1 h1) ?_
  refine w_lln rfl ?_
  refine w_lcmp ?_
  intro z hz ez
  have qz := rv_cmp ez
  refine w_ifne (fun c2 => absurd (by rw [← hW, hc.2]) (qz.2 c2)) (fun c2 => ?_)
  refine w_ic ?_
  refine w_goto ?_
  exact w_iret (fun _ => Or.inr rfl) hQ
theorem r_isWord0 {G : mj_G} {M0 M : mj_M} {B : Nat → Int} {n lim m bt ha hd ns rs sx : Nat} {T : Nat → Nat × Nat × Int × List Int × Nat} {PL WA OA : Nat → Int} {TO BI : Nat → Nat → Int} {nm : Nat → List Int} {b g z r : Int} {Q : mj_P} {d q : Nat} {i : Nat} {W : Int64} (hB : rv_BT G M0 B n lim m bt ha hd ns rs sx T) (hS : rv_R M0 n lim m bt ha hd ns rs sx (T q) PL WA OA TO BI nm b g z r M) (hqn : q ≤ n) (hi : i < 24) (hW : rv_8 (rv_rs.getD i []) = W) (hc : ¬ ((T q).1 = 1 ∧ rv_rs.getD i [] = (T q).2.2.2.1)) (hQ : Q (some (.inl 0)) G M) : mj_R mj_tab (d + 1) 206 [.inr (.inr (some m)), .inr (.inl W)] G M Q := by
  obtain ⟨⟨gm, gbt, gha, ghd, gns, grs, r1, r7, r23, r9, r10, rb, rr, n1, n2, gsx, r6⟩, hT⟩ := id hB
  have hk := rv_tkc_f (rv_y_w hB hqn).1
  refine ⟨Nat.le_of_ble_eq_true rfl, ?_⟩
  show wz d mt_X12_isWord.2.2.2.2.1 Q mt_X12_isWord.2.2.2.2.1 [some (.inr (.inr (some m))), some (.inr (.inl W)), none] [] G M _ _
  refine w_aln rfl ?_
  refine w_gi gm rfl (by decide) rfl hS.2.1.1 ?_
  refine w_ic ?_
  refine w_cmne (fun c => ?_) (fun c => ?_)
  · refine w_ic ?_
    exact w_iret (fun _ => Or.inl rfl) hQ
  · have h1 : (T q).1 = 1 := by omega
    refine w_aln rfl ?_
    refine w_gl gm rfl (by decide) rfl (hS.2.1.2.2.1 h1) ?_
    refine w_lln rfl ?_
    refine w_lcmp ?_
    intro z hz ez
    have qz := rv_cmp ez
    refine w_ifne (fun c2 => ?_) (fun c2 => absurd ⟨h1, rv_8i (rv_rs_o i hi) (rv_y_wo hB hqn h1) (hW.trans (qz.1 c2).symm)⟩ hc)
    refine w_ic ?_
    exact w_iret (fun _ => Or.inl rfl) hQ
theorem r_isName1 {G : mj_G} {M0 M : mj_M} {B : Nat → Int} {n lim m bt ha hd ns rs sx : Nat} {T : Nat → Nat × Nat × Int × List Int × Nat} {PL WA OA : Nat → Int} {TO BI : Nat → Nat → Int} {nm : Nat → List Int} {b g z r : Int} {Q : mj_P} {d q : Nat} (hB : rv_BT G M0 B n lim m bt ha hd ns rs sx T) (hS : rv_R M0 n lim m bt ha hd ns rs sx (T q) PL WA OA TO BI nm b g z r M) (hqn : q ≤ n) (h1 : (T q).1 = 1 → rv_nam (T q).2.2.2.1 → Q (some (.inl 1)) G M) (h0 : ¬ ((T q).1 = 1 ∧ rv_nam (T q).2.2.2.1) → Q (some (.inl 0)) G M) : ∀ (f k : Nat) (y : Int) (cb sb : Nat), k + f = 24 → ((y = 1 ∧ (T q).1 = 1 ∧ ∀ j, j < k → rv_rs.getD j [] ≠ (T q).2.2.2.1) ∨ (y = 0 ∧ ¬ ((T q).1 = 1 ∧ ∀ j, j < k → rv_rs.getD j [] ≠ (T q).2.2.2.1))) → wz d mt_X12_isName.2.2.2.2.1 Q (mt_X12_isName.2.2.2.2.1.drop 10) [some (.inr (.inr (some m))), some (.inl y), some (.inl (k : Int))] [] G M cb sb := by
  obtain ⟨⟨gm, gbt, gha, ghd, gns, grs, r1, r7, r23, r9, r10, rb, rr, n1, n2, gsx, r6⟩, hT⟩ := id hB
  intro f
  induction f with
  | zero =>
    intro k y cb sb hk hy
    have e : k = 24 := by omega
    subst e
    refine w_iln rfl ?_
    refine w_bp ?_
    refine w_cmge (fun c => ?_) (fun c => by exfalso; omega)
    refine w_iln rfl ?_
    rcases hy with ⟨e, a1, a2⟩ | ⟨e, a1⟩
    · rw [e]; exact w_iret (fun _ => Or.inr rfl) (h1 a1 a2)
    · rw [e]; exact w_iret (fun _ => Or.inl rfl) (h0 a1)
  | succ f ih =>
    intro k y cb sb hk hy
    have hk24 : k < 24 := by omega
    refine w_iln rfl ?_
    refine w_bp ?_
    refine w_cmge (fun c => by exfalso; omega) (fun c => ?_)
    refine w_iln rfl ?_
    refine w_ifeq (fun c2 => ?_) (fun c2 => ?_)
    · refine w_ic ?_
      refine w_isn ?_
      refine w_ii rfl ⟨by omega, by omega⟩ ?_
      refine w_goto ?_
      refine ih (k + 1) 0 _ _ (by omega) (Or.inr ⟨rfl, fun g => ?_⟩)
      rcases hy with ⟨e, a1, a2⟩ | ⟨e, a1⟩
      · omega
      · exact a1 ⟨g.1, fun j hj => g.2 j (by omega)⟩
    · rcases hy with ⟨e, a1, a2⟩ | ⟨e, a1⟩
      · refine w_aln rfl ?_
        refine w_gl gm rfl (by decide) rfl (hS.2.1.2.2.1 a1) ?_
        refine w_aln rfl ?_
        refine w_gr gm rfl (by decide) rfl (by rw [hS.2.2.2.2.2.1]; exact r10) ?_
        refine w_iln rfl ?_
        refine w_lald (v := rv_8 (rv_rs.getD k [])) grs rfl (by omega) (by show (k : Int) < ((24 : Nat) : Int); omega) (by rw [hS.2.2.2.2.2.2.1]; exact rr k hk24) ?_
        refine w_lcmp ?_
        intro z hz ez
        have qz := rv_cmp ez
        refine w_ifeq (fun c3 => ?_) (fun c3 => ?_)
        · refine w_ic ?_
          refine w_isn ?_
          refine w_ii rfl ⟨by omega, by omega⟩ ?_
          refine w_goto ?_
          exact ih (k + 1) 0 _ _ (by omega) (Or.inr ⟨rfl, fun g => g.2 k (by omega) (rv_8i (rv_rs_o k hk24) (rv_y_wo hB hqn a1) (qz.1 c3).symm)⟩)
        · refine w_ic ?_
          refine w_goto ?_
          refine w_isn ?_
          refine w_ii rfl ⟨by omega, by omega⟩ ?_
          refine w_goto ?_
          refine ih (k + 1) 1 _ _ (by omega) (Or.inl ⟨rfl, a1, fun j hj e => ?_⟩)
          rcases Nat.lt_or_ge j k with q1 | q1
          · exact a2 j q1 e
          · have ej : j = k := by omega
            rw [ej] at e
            exact qz.2 c3 (by rw [e])
      · omega
theorem r_X12_isName2 {G : mj_G} {M0 M : mj_M} {B : Nat → Int} {n lim m bt ha hd ns rs sx : Nat} {T : Nat → Nat × Nat × Int × List Int × Nat} {PL WA OA : Nat → Int} {TO BI : Nat → Nat → Int} {nm : Nat → List Int} {b g z r : Int} {Q : mj_P} {d q : Nat} (hB : rv_BT G M0 B n lim m bt ha hd ns rs sx T) (hS : rv_R M0 n lim m bt ha hd ns rs sx (T q) PL WA OA TO BI nm b g z r M) (hqn : q ≤ n) (h1 : (T q).1 = 1 → rv_nam (T q).2.2.2.1 → Q (some (.inl 1)) G M) (h0 : ¬ ((T q).1 = 1 ∧ rv_nam (T q).2.2.2.1) → Q (some (.inl 0)) G M) : mj_R mj_tab (d + 1) 201 [.inr (.inr (some m))] G M Q := by
  obtain ⟨⟨gm, gbt, gha, ghd, gns, grs, r1, r7, r23, r9, r10, rb, rr, n1, n2, gsx, r6⟩, hT⟩ := id hB
  have hk := rv_tkc_f (rv_y_w hB hqn).1
  refine ⟨Nat.le_of_ble_eq_true rfl, ?_⟩
  show wz d mt_X12_isName.2.2.2.2.1 Q mt_X12_isName.2.2.2.2.1 [some (.inr (.inr (some m))), none, none] [] G M _ _
  refine w_aln rfl ?_
  refine w_gi gm rfl (by decide) rfl hS.2.1.1 ?_
  refine w_ic ?_
  refine w_cmne (fun c => ?_) (fun c => ?_)
  · refine w_ic ?_
    refine w_isn ?_
    refine w_ic ?_
    refine w_isn ?_
    exact r_isName1 hB hS hqn h1 h0 24 0 0 _ _ (by omega) (Or.inr ⟨rfl, fun g => by omega⟩)
  · refine w_ic ?_
    refine w_goto ?_
    refine w_isn ?_
    refine w_ic ?_
    refine w_isn ?_
    exact r_isName1 hB hS hqn h1 h0 24 0 1 _ _ (by omega) (Or.inl ⟨rfl, by omega, fun j hj => absurd hj (Nat.not_lt_zero j)⟩)
theorem r_findR {G : mj_G} {M0 M : mj_M} {B : Nat → Int} {n lim m bt ha hd ns rs sx : Nat} {T : Nat → Nat × Nat × Int × List Int × Nat} {PL WA OA : Nat → Int} {TO BI : Nat → Nat → Int} {nm : Nat → List Int} {b g z r : Int} {Q : mj_P} {d q : Nat} (hB : rv_BT G M0 B n lim m bt ha hd ns rs sx T) (hS : rv_R M0 n lim m bt ha hd ns rs sx (T q) PL WA OA TO BI nm b g z r M) (hb : rv_pb PL) (hbb : PL 4 ≤ b) (hk1 : (T q).1 = 1) (hw : rv_wo (T q).2.2.2.1) (h : sp_find nm (PL 4) (T q).2.2.2.1 (fun r => Q (some (.inl r)) G M)) : ∀ f i : Nat, PL 4 ≤ ((i + f : Nat) : Int) → (i : Int) ≤ PL 4 → (∀ j, j < i → nm j ≠ (T q).2.2.2.1) → ∀ cb sb, wz d mt_X12_find.2.2.2.2.1 Q (mt_X12_find.2.2.2.2.1.drop 2) [some (.inr (.inr (some m))), some (.inl 8), some (.inl (PL 4)), some (.inl (i : Int))] [] G M cb sb := by
  obtain ⟨⟨gm, gbt, gha, ghd, gns, grs, r1, r7, r23, r9, r10, rb, rr, n1, n2, gsx, r6⟩, hT⟩ := id hB
  obtain ⟨b1, b2, b3, b4⟩ := hb
  have sh : ∀ (i : Nat), (i : Int) ≤ PL 4 → (∀ j, j < i → nm j ≠ (T q).2.2.2.1) → (∀ cb sb, (i : Int) < PL 4 → nm i ≠ (T q).2.2.2.1 → wz d mt_X12_find.2.2.2.2.1 Q (mt_X12_find.2.2.2.2.1.drop 2) [some (.inr (.inr (some m))), some (.inl 8), some (.inl (PL 4)), some (.inl ((i : Int) + 1))] [] G M cb sb) → ∀ cb sb, wz d mt_X12_find.2.2.2.2.1 Q (mt_X12_find.2.2.2.2.1.drop 2) [some (.inr (.inr (some m))), some (.inl 8), some (.inl (PL 4)), some (.inl (i : Int))] [] G M cb sb := by
    intro i g2 g3 go cb sb
    refine w_iln rfl ?_
    refine w_iln rfl ?_
    refine w_cmge (fun c => ?_) (fun c => ?_)
    · refine w_ic ?_
      exact w_iret (fun q => by cases q) (h.2 (fun j hj => g3 j (by omega)))
    · refine w_aln rfl ?_
      refine w_gr gm rfl (by decide) rfl (by rw [hS.2.2.2.2.2.1]; exact r9) ?_
      refine w_iln rfl ?_
      refine w_iln rfl ?_
      refine w_add ⟨by omega, by omega⟩ ?_
      refine w_lald (v := rv_8 (nm i)) gns rfl (by omega) (by show (8 : Int) + (i : Int) < ((16 : Nat) : Int); omega) (by rw [show ((8 : Int) + (i : Int)).toNat = 8 + i by omega]; exact (hS.2.2.2.2.1 i (by omega)).1) ?_
      refine w_aln rfl ?_
      refine w_gl gm rfl (by decide) rfl (hS.2.1.2.2.1 hk1) ?_
      refine w_lcmp ?_
      intro z hz ez
      have qz := rv_cmp ez
      refine w_ifne (fun c2 => ?_) (fun c2 => ?_)
      · refine w_ii rfl ⟨by omega, by omega⟩ ?_
        refine w_goto ?_
        exact go _ _ c (fun e => qz.2 c2 (by rw [e]))
      · refine w_iln rfl ?_
        exact w_iret (fun q => by cases q) (h.1 i c (rv_8i (hS.2.2.2.2.1 i (by omega)).2 hw (qz.1 c2)) g3)
  intro f
  induction f with
  | zero => intro i g1 g2 g3 cb sb; exact sh i g2 g3 (fun cb sb c _ => by exfalso; omega) cb sb
  | succ f ih =>
    intro i g1 g2 g3 cb sb
    exact sh i g2 g3 (fun cb sb c c2 => ih (i + 1) (by omega) (by omega) (fun j hj => by
      rcases Nat.lt_or_ge j i with q | q
      · exact g3 j q
      · rw [show j = i by omega]; exact c2) cb sb) cb sb
theorem r_X12_find2 {G : mj_G} {M0 M : mj_M} {B : Nat → Int} {n lim m bt ha hd ns rs sx : Nat} {T : Nat → Nat × Nat × Int × List Int × Nat} {PL WA OA : Nat → Int} {TO BI : Nat → Nat → Int} {nm : Nat → List Int} {b g z r : Int} {Q : mj_P} {d q : Nat} (hB : rv_BT G M0 B n lim m bt ha hd ns rs sx T) (hS : rv_R M0 n lim m bt ha hd ns rs sx (T q) PL WA OA TO BI nm b g z r M) (hb : rv_pb PL) (hbb : PL 4 ≤ b) (hk1 : (T q).1 = 1) (hw : rv_wo (T q).2.2.2.1) (h : sp_find nm (PL 4) (T q).2.2.2.1 (fun r => Q (some (.inl r)) G M)) : mj_R mj_tab (d + 1) 188 [.inr (.inr (some m)), .inl 8, .inl (PL 4)] G M Q := by
  refine ⟨Nat.le_of_ble_eq_true rfl, ?_⟩
  show wz d mt_X12_find.2.2.2.2.1 Q mt_X12_find.2.2.2.2.1 [some (.inr (.inr (some m))), some (.inl 8), some (.inl (PL 4)), none] [] G M _ _
  refine w_ic ?_
  refine w_isn ?_
  exact r_findR hB hS hb hbb hk1 hw h 8 0 (by have := hb.2.1; omega) hb.1 (fun j hj => absurd hj (Nat.not_lt_zero j)) _ _
theorem r_X12_takes2 {G : mj_G} {M0 M : mj_M} {B : Nat → Int} {n lim m bt ha hd ns rs sx : Nat} {T : Nat → Nat × Nat × Int × List Int × Nat} {PL WA OA : Nat → Int} {TO BI : Nat → Nat → Int} {nm : Nat → List Int} {b g z r : Int} {Q : mj_P} {d q : Nat} {lo hi : Int} (hB : rv_BT G M0 B n lim m bt ha hd ns rs sx T) (hS : rv_R M0 n lim m bt ha hd ns rs sx (T q) PL WA OA TO BI nm b g z r M) (hqn : q ≤ n) (h : sp_num T lo hi q (fun f a => ∀ M', rv_FR M0 m sx ha f a M' → Q (some (.inl 0)) G M') (∀ M', rv_R M0 n lim m bt ha hd ns rs sx (T (rv_x T q)) PL WA OA TO BI nm b (T q).2.2.1 z r M' → Q (some (.inl 1)) G M')) : mj_R mj_tab (d + 3) 246 [.inr (.inr (some m)), .inl lo, .inl hi] G M Q := by
  obtain ⟨⟨gm, gbt, gha, ghd, gns, grs, r1, r7, r23, r9, r10, rb, rr, n1, n2, gsx, r6⟩, hT⟩ := id hB
  refine ⟨Nat.le_of_ble_eq_true rfl, ?_⟩
  show wz (d + 2) mt_X12_takes.2.2.2.2.1 Q mt_X12_takes.2.2.2.2.1 [some (.inr (.inr (some m))), some (.inl lo), some (.inl hi)] [] G M _ _
  refine w_aln rfl ?_
  have t1 := rv_tkc_f (rv_y_w hB hqn).1
  refine w_gi gm rfl (by decide) rfl (hS.2.1.1) ?_
  refine w_ic ?_
  refine w_cmeq (fun c2 => ?_) (fun c2 => ?_)
  · skip
    refine w_aln rfl ?_
    have nn3 := hS.2.1.2.2.2.1 (by omega)
    refine w_gi gm rfl (by decide) rfl ((hS.2.1.2.2.2.1 (by omega)).1) ?_
    refine w_iln rfl ?_
    refine w_iln rfl ?_
    refine w_cs (st := []) rfl (Nat.le_of_ble_eq_true rfl) (fun kk h => h) ⟨Nat.le_of_ble_eq_true rfl, ?_⟩
    show wz (d + 1) mt_X12_isIn.2.2.2.2.1 _ mt_X12_isIn.2.2.2.2.1 [some (.inl ((T q).2.2.1)), some (.inl lo), some (.inl hi)] [] _ _ _ _
    refine w_iln rfl ?_
    refine w_iln rfl ?_
    refine w_cmlt (fun c4 => ?_) (fun c4 => ?_)
    · skip
      refine w_ic ?_
      refine w_iret (fun _ => Or.inl rfl) ?_
      refine w_ifne (fun c5 => ?_) (fun c5 => ?_)
      · exfalso; omega
      · skip
        refine w_aln rfl ?_
        refine w_ic ?_
        have h7 := h.1 (by omega)
        clear h
        have h8 := h7.2 (by omega)
        clear h7
        refine w_cv (st := []) rfl gm rfl (Nat.le_of_ble_eq_true rfl) (fun kk h => h) (r_X12_bad2 (d := d + 1) hB hS (fun MF6 F6 => ?_))
        exact w_iret (fun _ => Or.inl rfl) (h8 _ F6)
    · skip
      refine w_iln rfl ?_
      refine w_iln rfl ?_
      refine w_cmgt (fun c9 => ?_) (fun c9 => ?_)
      · skip
        refine w_ic ?_
        refine w_iret (fun _ => Or.inl rfl) ?_
        refine w_ifne (fun c10 => ?_) (fun c10 => ?_)
        · exfalso; omega
        · skip
          refine w_aln rfl ?_
          refine w_ic ?_
          have h12 := h.1 (by omega)
          clear h
          have h13 := h12.1 (by omega)
          clear h12
          have h14 := h13.2 (by omega)
          clear h13
          refine w_cv (st := []) rfl gm rfl (Nat.le_of_ble_eq_true rfl) (fun kk h => h) (r_X12_bad2 (d := d + 1) hB hS (fun MF11 F11 => ?_))
          exact w_iret (fun _ => Or.inl rfl) (h14 _ F11)
      · skip
        refine w_ic ?_
        refine w_goto ?_
        refine w_iret (fun _ => Or.inr rfl) ?_
        refine w_ifne (fun c15 => ?_) (fun c15 => ?_)
        · skip
          refine w_aln rfl ?_
          refine w_aln rfl ?_
          have nn16 := hS.2.1.2.2.2.1 (by omega)
          refine w_gi gm rfl (by decide) rfl ((hS.2.1.2.2.2.1 (by omega)).1) ?_
          refine w_pi gm rfl (by decide) rfl (fun q => by cases q) ?_
          have s17 := hS.sgot (v := (T q).2.2.1) hB.1
          refine w_aln rfl ?_
          refine w_cv (st := []) rfl gm rfl (Nat.le_of_ble_eq_true rfl) (fun kk h => h) (r_nxtT (d := d) hB s17 (by omega) (by omega) hqn (fun Ms18 s18 => ?_))
          refine w_ic ?_
          have h19 := h.1 (by omega)
          clear h
          have h20 := h19.1 (by omega)
          clear h19
          have h21 := h20.1 (by omega)
          clear h20
          exact w_iret (fun _ => Or.inr rfl) (h21 _ s18)
        · exfalso; omega
  · skip
    refine w_aln rfl ?_
    refine w_ic ?_
    have h23 := h.2 (by omega)
    clear h
    refine w_cv (st := []) rfl gm rfl (Nat.le_of_ble_eq_true rfl) (fun kk h => h) (r_X12_bad2 (d := d + 1) hB hS (fun MF22 F22 => ?_))
    exact w_iret (fun _ => Or.inl rfl) (h23 _ F22)
theorem r_X12_sign2 {G : mj_G} {M0 M : mj_M} {B : Nat → Int} {n lim m bt ha hd ns rs sx : Nat} {T : Nat → Nat × Nat × Int × List Int × Nat} {PL WA OA : Nat → Int} {TO BI : Nat → Nat → Int} {nm : Nat → List Int} {b g z r : Int} {Q : mj_P} {d q : Nat} (hB : rv_BT G M0 B n lim m bt ha hd ns rs sx T) (hS : rv_R M0 n lim m bt ha hd ns rs sx (T q) PL WA OA TO BI nm b g z r M) (hqn : q ≤ n) (h : sp_sgn T 59 q (fun f a => ∀ M', rv_FR M0 m sx ha f a M' → Q (some (.inl 0)) G M') (∀ M', rv_R M0 n lim m bt ha hd ns rs sx (T (rv_x T q)) PL WA OA TO BI nm b g z r M' → Q (some (.inl 1)) G M')) : mj_R mj_tab (d + 3) 242 [.inr (.inr (some m)), .inl 59] G M Q := by
  obtain ⟨⟨gm, gbt, gha, ghd, gns, grs, r1, r7, r23, r9, r10, rb, rr, n1, n2, gsx, r6⟩, hT⟩ := id hB
  have hk := rv_tkc_f (rv_y_w hB hqn).1
  refine ⟨Nat.le_of_ble_eq_true rfl, ?_⟩
  show wz (d + 2) mt_X12_sign.2.2.2.2.1 Q mt_X12_sign.2.2.2.2.1 [some (.inr (.inr (some m))), some (.inl 59)] [] G M _ _
  have bad : ∀ cb sb, ¬ ((T q).1 = 3 ∧ (T q).2.2.1 = 59) → wz (d + 2) mt_X12_sign.2.2.2.2.1 Q (mt_X12_sign.2.2.2.2.1.drop 4) [some (.inr (.inr (some m))), some (.inl 59)] [] G M cb sb := by
    intro cb sb hc
    refine w_aln rfl ?_
    refine w_ic ?_
    refine w_cv (st := []) rfl gm rfl (Nat.le_of_ble_eq_true rfl) (fun kk h => h) (r_X12_bad2 (d := d + 1) hB hS (fun M' F => ?_))
    refine w_iret (fun _ => Or.inl rfl) ?_
    by_cases c1 : (T q).1 = 3
    · exact (h.1 c1).2 (fun g => hc ⟨c1, g⟩) M' F
    · exact h.2 c1 M' F
  refine w_aln rfl ?_
  refine w_iln rfl ?_
  refine w_cv (st := []) rfl gm rfl (Nat.le_of_ble_eq_true rfl) (fun kk h => h) ⟨Nat.le_of_ble_eq_true rfl, ?_⟩
  show wz (d + 1) mt_X12_isSign.2.2.2.2.1 _ mt_X12_isSign.2.2.2.2.1 [some (.inr (.inr (some m))), some (.inl 59)] [] _ _ _ _
  refine w_aln rfl ?_
  refine w_gi gm rfl (by decide) rfl hS.2.1.1 ?_
  refine w_ic ?_
  refine w_cmne (fun c => ?_) (fun c => ?_)
  · refine w_ic ?_
    refine w_iret (fun _ => Or.inl rfl) ?_
    refine w_ifne (fun c => absurd rfl c) (fun _ => ?_)
    refine bad _ _ (fun g => ?_)
    rcases rv_tkc_s g.1 with e | e
    · exact c e.1
    · exact e.2 (Or.inl g.2)
  · have e3 : (T q).1 = 3 := by omega
    refine w_aln rfl ?_
    refine w_gi gm rfl (by decide) rfl (hS.2.1.2.2.2.2.1 e3) ?_
    refine w_iln rfl ?_
    refine w_cmne (fun c2 => ?_) (fun c2 => ?_)
    · refine w_ic ?_
      refine w_iret (fun _ => Or.inl rfl) ?_
      refine w_ifne (fun c => absurd rfl c) (fun _ => ?_)
      exact bad _ _ (fun g => c2 g.2)
    · refine w_ic ?_
      refine w_goto ?_
      refine w_iret (fun _ => Or.inr rfl) ?_
      refine w_ifne (fun _ => ?_) (fun c => absurd c (by decide))
      refine w_aln rfl ?_
      refine w_cv (st := []) rfl gm rfl (Nat.le_of_ble_eq_true rfl) (fun kk h => h) (r_nxtT (d := d) hB hS (by omega) (by omega) hqn (fun M' s => ?_))
      refine w_ic ?_
      exact w_iret (fun _ => Or.inr rfl) ((h.1 e3).1 c2 M' s)
end
