/-! ===== the reference while it reads a PLAIN (laid by a program) ===== -/
theorem rv_sm : ∀ j : Fin 32, (Int32.ofInt (j.val : Int) &&& 31).toBitVec.smod 32 = BitVec.ofNat 32 j.val := by decide +kernel
theorem rv_s1 : ∀ j k : Fin 32, (BitVec.ofNat 32 1 <<< (BitVec.ofNat 32 k.val)).getLsbD j.val = decide (j = k) := by decide +kernel
theorem rv_bt_b (z : Int) (j : Nat) (hj : j < 32) : rv_bt z (j : Int) = if (Int32.ofInt z).toBitVec.getLsbD j = true then 1 else 0 := by
  unfold rv_bt
  rw [mj_it]
  have e1 : (Int32.ofInt z >>> (Int32.ofInt (j : Int) &&& 31) &&& Int32.ofInt 1).toBitVec = (BitVec.ofBool ((Int32.ofInt z).toBitVec.getLsbD j)).setWidth 32 := by
    rw [Int32.toBitVec_and, Int32.toBitVec_shiftRight, rv_sm ⟨j, hj⟩]
    show _ &&& 1#32 = _
    rw [BitVec.and_one_eq_setWidth_ofBool_getLsbD]
    congr 2
    show ((Int32.ofInt z).toBitVec.sshiftRight (BitVec.ofNat 32 j).toNat).getLsbD 0 = _
    have e : (BitVec.ofNat 32 j).toNat = j := by rw [BitVec.toNat_ofNat]; exact Nat.mod_eq_of_lt (by omega)
    rw [e, BitVec.getLsbD_sshiftRight]
    simp [hj]
  have e2 : ∀ b : Bool, ∀ x : Int32, x.toBitVec = (BitVec.ofBool b).setWidth 32 → x.toInt = if b = true then 1 else 0 := by
    intro b x hx
    have : x = (if b = true then 1 else 0 : Int32) := by
      apply Int32.toBitVec_inj.mp
      rw [hx]
      cases b <;> decide
    rw [this]
    cases b <;> decide
  exact e2 _ _ e1
theorem rv_bs_b (z : Int) (j k : Nat) (hj : j < 32) (hk : k < 32) : rv_bt (rv_bs z (k : Int)) (j : Int) = if j = k then 1 else rv_bt z (j : Int) := by
  rw [rv_bt_b _ j hj, rv_bt_b _ j hj]
  unfold rv_bs
  rw [mj_it, mj_it, Int32.toBitVec_or, Int32.toBitVec_shiftLeft, rv_sm ⟨k, hk⟩, BitVec.getLsbD_or]
  have e := rv_s1 ⟨j, hj⟩ ⟨k, hk⟩
  have e' : ((Int32.ofInt 1).toBitVec <<< (BitVec.ofNat 32 k)).getLsbD j = decide (j = k) := by
    rw [show (Int32.ofInt 1).toBitVec = BitVec.ofNat 32 1 by decide]
    rw [e]; exact decide_eq_decide.mpr ⟨fun h => congrArg Fin.val h, fun h => Fin.ext h⟩
  rw [e']
  by_cases c : j = k
  · rw [if_pos c]; simp [c]
  · rw [if_neg c]; simp [c]
/-- the reference's kinds of tokens -/
def rv_tkc (t : Nat × Nat × Int × List Int × Nat) : Int := if t.1 = 3 then (if t.2.2.1 = 59 ∨ t.2.2.1 = 40 ∨ t.2.2.1 = 41 ∨ (60 ≤ t.2.2.1 ∧ t.2.2.1 ≤ 62) then 3 else 4) else if t.1 = 5 then 4 else (t.1 : Int)
theorem rv_tkc_f {t : Nat × Nat × Int × List Int × Nat} (h : t.1 ≤ 5) : (rv_tkc t = 0 ∧ t.1 = 0) ∨ (rv_tkc t = 1 ∧ t.1 = 1) ∨ (rv_tkc t = 2 ∧ t.1 = 2) ∨ (rv_tkc t = 3 ∧ t.1 = 3) ∨ (rv_tkc t = 4 ∧ t.1 ≠ 0 ∧ t.1 ≠ 1 ∧ t.1 ≠ 2) := by
  unfold rv_tkc
  split
  · split <;> omega
  · split <;> omega
theorem rv_tkc_s {t : Nat × Nat × Int × List Int × Nat} (h : t.1 = 3) : (rv_tkc t = 3 ∧ (t.2.2.1 = 59 ∨ t.2.2.1 = 40 ∨ t.2.2.1 = 41 ∨ (60 ≤ t.2.2.1 ∧ t.2.2.1 ≤ 62))) ∨ (rv_tkc t = 4 ∧ ¬ (t.2.2.1 = 59 ∨ t.2.2.1 = 40 ∨ t.2.2.1 = 41 ∨ (60 ≤ t.2.2.1 ∧ t.2.2.1 ≤ 62))) := by
  unfold rv_tkc
  rw [if_pos h]
  split
  · rename_i c; exact Or.inl ⟨rfl, c⟩
  · rename_i c; exact Or.inr ⟨rfl, c⟩
def rv_tq (t : Nat × Nat × Int × List Int × Nat) (m : Nat) (M : mj_M) : Prop := M.1 m 11 = rv_tkc t ∧ M.1 m 12 = (t.2.1 : Int) ∧ (t.1 = 1 → M.2.1 m 17 = rv_8 t.2.2.2.1) ∧ (t.1 = 2 → M.1 m 14 = t.2.2.1 ∧ 0 ≤ t.2.2.1 ∧ t.2.2.1 ≤ 999) ∧ (t.1 = 3 → M.1 m 14 = t.2.2.1) ∧ (t.1 ≠ 0 → t.1 ≠ 5 → M.1 m 4 = (t.2.2.2.2 : Int))
theorem rv_tq_of {t : Nat × Nat × Int × List Int × Nat} {m : Nat} {M : mj_M} (h5 : t.1 ≤ 5) (h : rv_tr t m M) : rv_tq t m M := by
  obtain ⟨h0, h1, h2, h3, h4, h55, h12, h44⟩ := h
  refine ⟨?_, h12, fun e => (h1 e).2, fun e => (h2 e).2, fun e => (h3 e).1, h44⟩
  unfold rv_tkc
  split
  · rename_i c
    rcases (h3 c).2 with ⟨e, g⟩ | ⟨e, g⟩
    · rw [if_pos g]; exact e
    · rw [if_neg g]; exact e
  · split
    · rename_i c; exact h55 c
    · rename_i c1 c2
      have : t.1 = 0 ∨ t.1 = 1 ∨ t.1 = 2 ∨ t.1 = 4 := by omega
      rcases this with e | e | e | e
      · rw [h0 e, e]; rfl
      · rw [(h1 e).1, e]; rfl
      · rw [(h2 e).1, e]; rfl
      · rw [h4 e, e]; rfl
/-- where things of the reference lie -/
def rv_B (G : mj_G) (M0 : mj_M) (B : Nat → Int) (n lim m bt ha hd ns rs sx : Nat) : Prop := G m = (1012, 0) ∧ G bt = (50101, 940) ∧ G ha = (52100, 221) ∧ G hd = (56100, 4) ∧ G ns = (54103, 16) ∧ G rs = (55103, 24) ∧ M0.2.2 m 1 = some bt ∧ M0.2.2 m 7 = some ha ∧ M0.2.2 m 23 = some hd ∧ M0.2.2 m 9 = some ns ∧ M0.2.2 m 10 = some rs ∧ (∀ k, rv_u8 (M0.1 bt k) = B k) ∧ (∀ k, k < 24 → M0.2.1 rs k = rv_8 (rv_rs.getD k [])) ∧ n ≤ 940 ∧ lim ≤ 940 ∧ G sx = (51100, 537) ∧ M0.2.2 m 6 = some sx
/-- h against what is read -/
def rv_H (H : Nat → Int) (PL WA : Nat → Int) (TO BI : Nat → Nat → Int) : Prop := H 0 = PL 4 ∧ H 1 = PL 6 ∧ H 2 = PL 7 ∧ H 3 = PL 8 ∧ (∀ t w, t < 8 → w < 9 → H (4 + 9 * t + w) = TO t w) ∧ (∀ w, w < 12 → H (76 + w) = WA w) ∧ (∀ t w, t < 8 → w < 12 → H (88 + 12 * t + w) = BI t w ∧ 0 ≤ BI t w)
def rv_sw (M0 : mj_M) (sx m ha : Nat) (M : mj_M) : Prop := M.1 sx = M0.1 sx ∧ (∀ j, 25 ≤ j → M.1 m j = M0.1 m j) ∧ (∀ j, 184 ≤ j → j < 221 → M.1 ha j = 0) ∧ (∀ a j, a ≠ m → ¬ (M0.2.2 m 9 = some a ∧ 8 ≤ j) → M.2.1 a j = M0.2.1 a j)
theorem rv_sw.m {M0 M : mj_M} {sx m ha j : Nat} {v : Int} (h : rv_sw M0 sx m ha M) (h1 : sx ≠ m) (h2 : ha ≠ m) (hj : j < 25) : rv_sw M0 sx m ha (mj_p0 M m j v) := ⟨(wz_c h1).trans h.1, fun k hk => (hn_n (Or.inr (by omega))).trans (h.2.1 k hk), fun k a b => (hn_n (Or.inl h2)).trans (h.2.2.1 k a b), h.2.2.2⟩
theorem rv_sw.h {M0 M : mj_M} {sx m ha j : Nat} {v : Int} (h : rv_sw M0 sx m ha M) (h1 : sx ≠ ha) (h2 : m ≠ ha) (hj : j < 184) : rv_sw M0 sx m ha (mj_p0 M ha j v) := ⟨(wz_c h1).trans h.1, fun k hk => (hn_n (Or.inl h2)).trans (h.2.1 k hk), fun k a b => (hn_n (Or.inr (by omega))).trans (h.2.2.1 k a b), h.2.2.2⟩
theorem rv_sw.o {M0 M : mj_M} {sx m ha a j : Nat} {v : Int} (h : rv_sw M0 sx m ha M) (h1 : sx ≠ a) (h2 : m ≠ a) (h3 : ha ≠ a) : rv_sw M0 sx m ha (mj_p0 M a j v) := ⟨(wz_c h1).trans h.1, fun k hk => (hn_n (Or.inl h2)).trans (h.2.1 k hk), fun k a b => (hn_n (Or.inl h3)).trans (h.2.2.1 k a b), h.2.2.2⟩
theorem rv_sw.c {M0 M M' : mj_M} {sx m ha : Nat} (h : rv_sw M0 sx m ha M) (oc : ∀ a, a ≠ m → M'.1 a = M.1 a) (om : ∀ k, ¬ k ∈ [4, 11, 12, 13, 14] → M'.1 m k = M.1 m k) (ol : ∀ a, a ≠ m → M'.2.1 a = M.2.1 a) (h1 : sx ≠ m) (h2 : ha ≠ m) : rv_sw M0 sx m ha M' := ⟨(oc sx h1).trans h.1, fun k hk => (om k (fun q => by simp at q; omega)).trans (h.2.1 k hk), fun k a b => by rw [oc ha h2]; exact h.2.2.1 k a b, fun a j ha hn => (congrFun (ol a ha) j).trans (h.2.2.2 a j ha hn)⟩
def rv_R (M0 : mj_M) (n lim m bt ha hd ns rs sx : Nat) (t : Nat × Nat × Int × List Int × Nat) (PL WA OA : Nat → Int) (TO BI : Nat → Nat → Int) (nm : Nat → List Int) (b g z r : Int) (M : mj_M) : Prop :=
  (M.1 m 3 = (n : Int) ∧ M.1 m 5 = (lim : Int) ∧ M.1 m 21 = PL 5 ∧ M.1 m 22 = PL 11 ∧ (∀ k : Nat, k < 3 → rv_bt (M.1 m 20) (k : Int) = PL (12 + k)) ∧ M.1 m 18 = g ∧ M.1 m 24 = z ∧ M.1 m 19 = r) ∧ rv_tq t m M ∧ rv_H (M.1 ha) PL WA TO BI ∧ (∀ s k : Nat, s < 4 → k < 8 → rv_bt (M.1 hd s) (k : Int) = rv_bt (OA k) ((s + 4 : Nat) : Int)) ∧ (∀ k : Nat, (k : Int) < b → M.2.1 ns (8 + k) = rv_8 (nm k) ∧ rv_wo (nm k)) ∧ M.2.2 = M0.2.2 ∧ M.2.1 rs = M0.2.1 rs ∧ M.1 bt = M0.1 bt ∧ rv_sw M0 sx m ha M
section RS
variable {G : mj_G} {M0 M : mj_M} {B : Nat → Int} {n lim m bt ha hd ns rs sx : Nat} {t : Nat × Nat × Int × List Int × Nat} {PL WA OA : Nat → Int} {TO BI : Nat → Nat → Int} {nm : Nat → List Int} {b g z r : Int}
theorem rv_tq.cg {M' : mj_M} (h : rv_tq t m M) (e : ∀ k, k = 4 ∨ k = 11 ∨ k = 12 ∨ k = 14 → M'.1 m k = M.1 m k) (e2 : M'.2.1 m 17 = M.2.1 m 17) : rv_tq t m M' := by
  unfold rv_tq at *
  rw [e 4 (by decide), e 11 (by decide), e 12 (by decide), e 14 (by decide), e2]; exact h
theorem rv_R.srain {v : Int} (hB : rv_B G M0 B n lim m bt ha hd ns rs sx) (h : rv_R M0 n lim m bt ha hd ns rs sx t PL WA OA TO BI nm b g z r M) : rv_R M0 n lim m bt ha hd ns rs sx t (rv_up PL 11 v) WA OA TO BI nm b g z r (mj_p0 M m 22 v) := by
  obtain ⟨gm, gbt, gha, ghd, gns, grs, -, -, -, -, -, -, -, -, -, gsx, -⟩ := hB
  obtain ⟨⟨h3, h5, h21, h22, h20, h18, h24, h19⟩, ht, hh, hd1, hn, e1, e2, e3, e4⟩ := h
  exact ⟨⟨(hn_n (Or.inr (by decide))).trans h3, (hn_n (Or.inr (by decide))).trans h5, ((hn_n (Or.inr (by decide))).trans h21).trans (rv_up_n (by decide)).symm, hn_s.trans rv_up_s.symm, fun k hk => by rw [show (mj_p0 M m 22 v).1 m 20 = M.1 m 20 from hn_n (Or.inr (by decide)), h20 k hk]; exact (rv_up_n (by omega)).symm, (hn_n (Or.inr (by decide))).trans h18, (hn_n (Or.inr (by decide))).trans h24, (hn_n (Or.inr (by decide))).trans h19⟩, ht.cg (fun k hk => hn_n (Or.inr (by omega))) rfl, by
    rw [wz_c (hn_ne gha gm (by decide))]
    obtain ⟨a0, a1, a2, a3, a4⟩ := hh
    exact ⟨a0.trans (rv_up_n (by decide)).symm, a1.trans (rv_up_n (by decide)).symm, a2.trans (rv_up_n (by decide)).symm, a3.trans (rv_up_n (by decide)).symm, a4⟩, fun s k a c => by rw [wz_c (hn_ne ghd gm (by decide))]; exact hd1 s k a c, hn, e1, e2, (wz_c (hn_ne gbt gm (by decide))).trans e3, e4.m (hn_ne gsx gm (by decide)) (hn_ne gha gm (by decide)) (by omega)⟩
theorem rv_R.sbids {v : Int} (hB : rv_B G M0 B n lim m bt ha hd ns rs sx) (h : rv_R M0 n lim m bt ha hd ns rs sx t PL WA OA TO BI nm b g z r M) : rv_R M0 n lim m bt ha hd ns rs sx t (rv_up PL 5 v) WA OA TO BI nm b g z r (mj_p0 M m 21 v) := by
  obtain ⟨gm, gbt, gha, ghd, gns, grs, -, -, -, -, -, -, -, -, -, gsx, -⟩ := hB
  obtain ⟨⟨h3, h5, h21, h22, h20, h18, h24, h19⟩, ht, hh, hd1, hn, e1, e2, e3, e4⟩ := h
  exact ⟨⟨(hn_n (Or.inr (by decide))).trans h3, (hn_n (Or.inr (by decide))).trans h5, hn_s.trans rv_up_s.symm, ((hn_n (Or.inr (by decide))).trans h22).trans (rv_up_n (by decide)).symm, fun k hk => by rw [show (mj_p0 M m 21 v).1 m 20 = M.1 m 20 from hn_n (Or.inr (by decide)), h20 k hk]; exact (rv_up_n (by omega)).symm, (hn_n (Or.inr (by decide))).trans h18, (hn_n (Or.inr (by decide))).trans h24, (hn_n (Or.inr (by decide))).trans h19⟩, ht.cg (fun k hk => hn_n (Or.inr (by omega))) rfl, by
    rw [wz_c (hn_ne gha gm (by decide))]
    obtain ⟨a0, a1, a2, a3, a4⟩ := hh
    exact ⟨a0.trans (rv_up_n (by decide)).symm, a1.trans (rv_up_n (by decide)).symm, a2.trans (rv_up_n (by decide)).symm, a3.trans (rv_up_n (by decide)).symm, a4⟩, fun s k a c => by rw [wz_c (hn_ne ghd gm (by decide))]; exact hd1 s k a c, hn, e1, e2, (wz_c (hn_ne gbt gm (by decide))).trans e3, e4.m (hn_ne gsx gm (by decide)) (hn_ne gha gm (by decide)) (by omega)⟩
theorem rv_R.sgot {v : Int} (hB : rv_B G M0 B n lim m bt ha hd ns rs sx) (h : rv_R M0 n lim m bt ha hd ns rs sx t PL WA OA TO BI nm b g z r M) : rv_R M0 n lim m bt ha hd ns rs sx t PL WA OA TO BI nm b v z r (mj_p0 M m 18 v) := by
  obtain ⟨gm, gbt, gha, ghd, gns, grs, -, -, -, -, -, -, -, -, -, gsx, -⟩ := hB
  obtain ⟨⟨h3, h5, h21, h22, h20, h18, h24, h19⟩, ht, hh, hd1, hn, e1, e2, e3, e4⟩ := h
  exact ⟨⟨(hn_n (Or.inr (by decide))).trans h3, (hn_n (Or.inr (by decide))).trans h5, (hn_n (Or.inr (by decide))).trans h21, (hn_n (Or.inr (by decide))).trans h22, fun k hk => by rw [show (mj_p0 M m 18 v).1 m 20 = M.1 m 20 from hn_n (Or.inr (by decide)), h20 k hk], hn_s, (hn_n (Or.inr (by decide))).trans h24, (hn_n (Or.inr (by decide))).trans h19⟩, ht.cg (fun k hk => hn_n (Or.inr (by omega))) rfl, by rw [wz_c (hn_ne gha gm (by decide))]; exact hh, fun s k a c => by rw [wz_c (hn_ne ghd gm (by decide))]; exact hd1 s k a c, hn, e1, e2, (wz_c (hn_ne gbt gm (by decide))).trans e3, e4.m (hn_ne gsx gm (by decide)) (hn_ne gha gm (by decide)) (by omega)⟩
theorem rv_R.sof {v : Int} (hB : rv_B G M0 B n lim m bt ha hd ns rs sx) (h : rv_R M0 n lim m bt ha hd ns rs sx t PL WA OA TO BI nm b g z r M) : rv_R M0 n lim m bt ha hd ns rs sx t PL WA OA TO BI nm b g v r (mj_p0 M m 24 v) := by
  obtain ⟨gm, gbt, gha, ghd, gns, grs, -, -, -, -, -, -, -, -, -, gsx, -⟩ := hB
  obtain ⟨⟨h3, h5, h21, h22, h20, h18, h24, h19⟩, ht, hh, hd1, hn, e1, e2, e3, e4⟩ := h
  exact ⟨⟨(hn_n (Or.inr (by decide))).trans h3, (hn_n (Or.inr (by decide))).trans h5, (hn_n (Or.inr (by decide))).trans h21, (hn_n (Or.inr (by decide))).trans h22, fun k hk => by rw [show (mj_p0 M m 24 v).1 m 20 = M.1 m 20 from hn_n (Or.inr (by decide)), h20 k hk], (hn_n (Or.inr (by decide))).trans h18, hn_s, (hn_n (Or.inr (by decide))).trans h19⟩, ht.cg (fun k hk => hn_n (Or.inr (by omega))) rfl, by rw [wz_c (hn_ne gha gm (by decide))]; exact hh, fun s k a c => by rw [wz_c (hn_ne ghd gm (by decide))]; exact hd1 s k a c, hn, e1, e2, (wz_c (hn_ne gbt gm (by decide))).trans e3, e4.m (hn_ne gsx gm (by decide)) (hn_ne gha gm (by decide)) (by omega)⟩
theorem rv_R.srow {v : Int} (hB : rv_B G M0 B n lim m bt ha hd ns rs sx) (h : rv_R M0 n lim m bt ha hd ns rs sx t PL WA OA TO BI nm b g z r M) : rv_R M0 n lim m bt ha hd ns rs sx t PL WA OA TO BI nm b g z v (mj_p0 M m 19 v) := by
  obtain ⟨gm, gbt, gha, ghd, gns, grs, -, -, -, -, -, -, -, -, -, gsx, -⟩ := hB
  obtain ⟨⟨h3, h5, h21, h22, h20, h18, h24, h19⟩, ht, hh, hd1, hn, e1, e2, e3, e4⟩ := h
  exact ⟨⟨(hn_n (Or.inr (by decide))).trans h3, (hn_n (Or.inr (by decide))).trans h5, (hn_n (Or.inr (by decide))).trans h21, (hn_n (Or.inr (by decide))).trans h22, fun k hk => by rw [show (mj_p0 M m 19 v).1 m 20 = M.1 m 20 from hn_n (Or.inr (by decide)), h20 k hk], (hn_n (Or.inr (by decide))).trans h18, (hn_n (Or.inr (by decide))).trans h24, hn_s⟩, ht.cg (fun k hk => hn_n (Or.inr (by omega))) rfl, by rw [wz_c (hn_ne gha gm (by decide))]; exact hh, fun s k a c => by rw [wz_c (hn_ne ghd gm (by decide))]; exact hd1 s k a c, hn, e1, e2, (wz_c (hn_ne gbt gm (by decide))).trans e3, e4.m (hn_ne gsx gm (by decide)) (hn_ne gha gm (by decide)) (by omega)⟩
theorem rv_R.sonce {k : Nat} (hB : rv_B G M0 B n lim m bt ha hd ns rs sx) (h : rv_R M0 n lim m bt ha hd ns rs sx t PL WA OA TO BI nm b g z r M) (hk : k < 3) : rv_R M0 n lim m bt ha hd ns rs sx t (rv_up PL (12 + k) 1) WA OA TO BI nm b g z r (mj_p0 M m 20 (rv_bs (M.1 m 20) (k : Int))) := by
  obtain ⟨gm, gbt, gha, ghd, gns, grs, -, -, -, -, -, -, -, -, -, gsx, -⟩ := hB
  obtain ⟨⟨h3, h5, h21, h22, h20, h18, h24, h19⟩, ht, hh, hd1, hn, e1, e2, e3, e4⟩ := h
  refine ⟨⟨(hn_n (Or.inr (by decide))).trans h3, (hn_n (Or.inr (by decide))).trans h5, ((hn_n (Or.inr (by decide))).trans h21).trans (rv_up_n (by omega)).symm, ((hn_n (Or.inr (by decide))).trans h22).trans (rv_up_n (by omega)).symm, fun j hj => ?_, (hn_n (Or.inr (by decide))).trans h18, (hn_n (Or.inr (by decide))).trans h24, (hn_n (Or.inr (by decide))).trans h19⟩, ht.cg (fun k hk => hn_n (Or.inr (by omega))) rfl, ?_, fun s k a c => by rw [wz_c (hn_ne ghd gm (by decide))]; exact hd1 s k a c, hn, e1, e2, (wz_c (hn_ne gbt gm (by decide))).trans e3, e4.m (hn_ne gsx gm (by decide)) (hn_ne gha gm (by decide)) (by omega)⟩
  · rw [hn_s, rv_bs_b _ j k (by omega) (by omega)]
    by_cases c : j = k
    · rw [if_pos c, c]; exact rv_up_s.symm
    · rw [if_neg c, h20 j hj]; exact (rv_up_n (by omega)).symm
  · rw [wz_c (hn_ne gha gm (by decide))]
    obtain ⟨a0, a1, a2, a3, a4⟩ := hh
    exact ⟨a0.trans (rv_up_n (by omega)).symm, a1.trans (rv_up_n (by omega)).symm, a2.trans (rv_up_n (by omega)).symm, a3.trans (rv_up_n (by omega)).symm, a4⟩
theorem rv_R.htold {j k i : Nat} {v : Int} (hB : rv_B G M0 B n lim m bt ha hd ns rs sx) (h : rv_R M0 n lim m bt ha hd ns rs sx t PL WA OA TO BI nm b g z r M) (hj : j = 4 + 9 * k + i) (hk : k < 8) (hi : i < 9) : rv_R M0 n lim m bt ha hd ns rs sx t PL WA OA (rv_up2 TO k i v) BI nm b g z r (mj_p0 M ha j v) := by
  obtain ⟨gm, gbt, gha, ghd, gns, grs, -, -, -, -, -, -, -, -, -, gsx, -⟩ := hB
  obtain ⟨⟨h3, h5, h21, h22, h20, h18, h24, h19⟩, ht, ⟨a0, a1, a2, a3, a4, a5, a6⟩, hd1, hn, e1, e2, e3, e4⟩ := h
  have cm : ∀ k, (mj_p0 M ha j v).1 m k = M.1 m k := fun k => hn_n (Or.inl (hn_ne gm gha (by decide)))
  subst hj
  refine ⟨⟨(cm _).trans h3, (cm _).trans h5, ((cm _).trans h21), ((cm _).trans h22), fun k hk => by rw [cm, h20 k hk], (cm _).trans h18, (cm _).trans h24, (cm _).trans h19⟩, ht.cg (fun k _ => cm k) rfl, ?_, fun s k a c => by rw [wz_c (hn_ne ghd gha (by decide))]; exact hd1 s k a c, hn, e1, e2, (wz_c (hn_ne gbt gha (by decide))).trans e3, e4.h (hn_ne gsx gha (by decide)) (hn_ne gm gha (by decide)) (by omega)⟩
  rw [wz_u]
  refine ⟨(rv_up_n (by omega)).trans a0, (rv_up_n (by omega)).trans a1, (rv_up_n (by omega)).trans a2, (rv_up_n (by omega)).trans a3, fun t w ht hw => ?_, fun w hw => (rv_up_n (by omega)).trans (a5 w hw), fun t w ht hw => ⟨(rv_up_n (by omega)).trans (a6 t w ht hw).1, (a6 t w ht hw).2⟩⟩
  by_cases c : t = k ∧ w = i
  · rw [c.1, c.2, rv_up2_s]; exact rv_up_s
  · rw [rv_up_n (by omega), a4 t w ht hw]
    by_cases c2 : t = k
    · rw [c2]; exact (rv_up2_n (fun e => c ⟨c2, e⟩)).symm
    · exact (congrFun (rv_up2_o c2) w).symm
theorem rv_R.hwat {j i : Nat} {v : Int} (hB : rv_B G M0 B n lim m bt ha hd ns rs sx) (h : rv_R M0 n lim m bt ha hd ns rs sx t PL WA OA TO BI nm b g z r M) (hj : j = 76 + i) (hi : i < 12) : rv_R M0 n lim m bt ha hd ns rs sx t PL (rv_up WA i v) OA TO BI nm b g z r (mj_p0 M ha j v) := by
  obtain ⟨gm, gbt, gha, ghd, gns, grs, -, -, -, -, -, -, -, -, -, gsx, -⟩ := hB
  obtain ⟨⟨h3, h5, h21, h22, h20, h18, h24, h19⟩, ht, ⟨a0, a1, a2, a3, a4, a5, a6⟩, hd1, hn, e1, e2, e3, e4⟩ := h
  have cm : ∀ k, (mj_p0 M ha j v).1 m k = M.1 m k := fun k => hn_n (Or.inl (hn_ne gm gha (by decide)))
  subst hj
  refine ⟨⟨(cm _).trans h3, (cm _).trans h5, ((cm _).trans h21), ((cm _).trans h22), fun k hk => by rw [cm, h20 k hk], (cm _).trans h18, (cm _).trans h24, (cm _).trans h19⟩, ht.cg (fun k _ => cm k) rfl, ?_, fun s k a c => by rw [wz_c (hn_ne ghd gha (by decide))]; exact hd1 s k a c, hn, e1, e2, (wz_c (hn_ne gbt gha (by decide))).trans e3, e4.h (hn_ne gsx gha (by decide)) (hn_ne gm gha (by decide)) (by omega)⟩
  rw [wz_u]
  refine ⟨(rv_up_n (by omega)).trans a0, (rv_up_n (by omega)).trans a1, (rv_up_n (by omega)).trans a2, (rv_up_n (by omega)).trans a3, fun t w ht hw => (rv_up_n (by omega)).trans (a4 t w ht hw), fun w hw => ?_, fun t w ht hw => ⟨(rv_up_n (by omega)).trans (a6 t w ht hw).1, (a6 t w ht hw).2⟩⟩
  by_cases c : w = i
  · rw [c]; exact rv_up_s.trans rv_up_s.symm
  · rw [rv_up_n (by omega), a5 w hw]; exact (rv_up_n c).symm
theorem rv_R.hbid {j k i : Nat} {v : Int} (hB : rv_B G M0 B n lim m bt ha hd ns rs sx) (h : rv_R M0 n lim m bt ha hd ns rs sx t PL WA OA TO BI nm b g z r M) (hj : j = 88 + 12 * k + i) (hk : k < 8) (hi : i < 12) (hv : 0 ≤ v) : rv_R M0 n lim m bt ha hd ns rs sx t PL WA OA TO (rv_up2 BI k i v) nm b g z r (mj_p0 M ha j v) := by
  obtain ⟨gm, gbt, gha, ghd, gns, grs, -, -, -, -, -, -, -, -, -, gsx, -⟩ := hB
  obtain ⟨⟨h3, h5, h21, h22, h20, h18, h24, h19⟩, ht, ⟨a0, a1, a2, a3, a4, a5, a6⟩, hd1, hn, e1, e2, e3, e4⟩ := h
  have cm : ∀ k, (mj_p0 M ha j v).1 m k = M.1 m k := fun k => hn_n (Or.inl (hn_ne gm gha (by decide)))
  subst hj
  refine ⟨⟨(cm _).trans h3, (cm _).trans h5, ((cm _).trans h21), ((cm _).trans h22), fun k hk => by rw [cm, h20 k hk], (cm _).trans h18, (cm _).trans h24, (cm _).trans h19⟩, ht.cg (fun k _ => cm k) rfl, ?_, fun s k a c => by rw [wz_c (hn_ne ghd gha (by decide))]; exact hd1 s k a c, hn, e1, e2, (wz_c (hn_ne gbt gha (by decide))).trans e3, e4.h (hn_ne gsx gha (by decide)) (hn_ne gm gha (by decide)) (by omega)⟩
  rw [wz_u]
  refine ⟨(rv_up_n (by omega)).trans a0, (rv_up_n (by omega)).trans a1, (rv_up_n (by omega)).trans a2, (rv_up_n (by omega)).trans a3, fun t w ht hw => (rv_up_n (by omega)).trans (a4 t w ht hw), fun w hw => (rv_up_n (by omega)).trans (a5 w hw), fun t w ht hw => ?_⟩
  by_cases c : t = k ∧ w = i
  · rw [c.1, c.2, rv_up2_s]; exact ⟨rv_up_s, hv⟩
  · rw [rv_up_n (by omega), (a6 t w ht hw).1]
    by_cases c2 : t = k
    · rw [c2, rv_up2_n (fun e => c ⟨c2, e⟩)]; exact ⟨rfl, by rw [← c2]; exact (a6 t w ht hw).2⟩
    · rw [rv_up2_o c2]; exact ⟨rfl, (a6 t w ht hw).2⟩
theorem rv_R.htow {j  : Nat} {v : Int} (hB : rv_B G M0 B n lim m bt ha hd ns rs sx) (h : rv_R M0 n lim m bt ha hd ns rs sx t PL WA OA TO BI nm b g z r M) (hj : j = 0)  : rv_R M0 n lim m bt ha hd ns rs sx t (rv_up PL 4 v) WA OA TO BI nm b g z r (mj_p0 M ha j v) := by
  obtain ⟨gm, gbt, gha, ghd, gns, grs, -, -, -, -, -, -, -, -, -, gsx, -⟩ := hB
  obtain ⟨⟨h3, h5, h21, h22, h20, h18, h24, h19⟩, ht, ⟨a0, a1, a2, a3, a4, a5, a6⟩, hd1, hn, e1, e2, e3, e4⟩ := h
  have cm : ∀ k, (mj_p0 M ha j v).1 m k = M.1 m k := fun k => hn_n (Or.inl (hn_ne gm gha (by decide)))
  subst hj
  refine ⟨⟨(cm _).trans h3, (cm _).trans h5, ((cm _).trans h21).trans (rv_up_n (by decide)).symm, ((cm _).trans h22).trans (rv_up_n (by decide)).symm, fun k hk => by rw [cm, h20 k hk]; exact (rv_up_n (by omega)).symm, (cm _).trans h18, (cm _).trans h24, (cm _).trans h19⟩, ht.cg (fun k _ => cm k) rfl, ?_, fun s k a c => by rw [wz_c (hn_ne ghd gha (by decide))]; exact hd1 s k a c, hn, e1, e2, (wz_c (hn_ne gbt gha (by decide))).trans e3, e4.h (hn_ne gsx gha (by decide)) (hn_ne gm gha (by decide)) (by omega)⟩
  rw [wz_u]
  exact ⟨rv_up_s.trans rv_up_s.symm, ((rv_up_n (by decide)).trans a1).trans (rv_up_n (by decide)).symm, ((rv_up_n (by decide)).trans a2).trans (rv_up_n (by decide)).symm, ((rv_up_n (by decide)).trans a3).trans (rv_up_n (by decide)).symm, fun t w ht hw => (rv_up_n (by omega)).trans (a4 t w ht hw), fun w hw => (rv_up_n (by omega)).trans (a5 w hw), fun t w ht hw => ⟨(rv_up_n (by omega)).trans (a6 t w ht hw).1, (a6 t w ht hw).2⟩⟩
theorem rv_R.hval0 {j  : Nat} {v : Int} (hB : rv_B G M0 B n lim m bt ha hd ns rs sx) (h : rv_R M0 n lim m bt ha hd ns rs sx t PL WA OA TO BI nm b g z r M) (hj : j = 1)  : rv_R M0 n lim m bt ha hd ns rs sx t (rv_up PL 6 v) WA OA TO BI nm b g z r (mj_p0 M ha j v) := by
  obtain ⟨gm, gbt, gha, ghd, gns, grs, -, -, -, -, -, -, -, -, -, gsx, -⟩ := hB
  obtain ⟨⟨h3, h5, h21, h22, h20, h18, h24, h19⟩, ht, ⟨a0, a1, a2, a3, a4, a5, a6⟩, hd1, hn, e1, e2, e3, e4⟩ := h
  have cm : ∀ k, (mj_p0 M ha j v).1 m k = M.1 m k := fun k => hn_n (Or.inl (hn_ne gm gha (by decide)))
  subst hj
  refine ⟨⟨(cm _).trans h3, (cm _).trans h5, ((cm _).trans h21).trans (rv_up_n (by decide)).symm, ((cm _).trans h22).trans (rv_up_n (by decide)).symm, fun k hk => by rw [cm, h20 k hk]; exact (rv_up_n (by omega)).symm, (cm _).trans h18, (cm _).trans h24, (cm _).trans h19⟩, ht.cg (fun k _ => cm k) rfl, ?_, fun s k a c => by rw [wz_c (hn_ne ghd gha (by decide))]; exact hd1 s k a c, hn, e1, e2, (wz_c (hn_ne gbt gha (by decide))).trans e3, e4.h (hn_ne gsx gha (by decide)) (hn_ne gm gha (by decide)) (by omega)⟩
  rw [wz_u]
  exact ⟨((rv_up_n (by decide)).trans a0).trans (rv_up_n (by decide)).symm, rv_up_s.trans rv_up_s.symm, ((rv_up_n (by decide)).trans a2).trans (rv_up_n (by decide)).symm, ((rv_up_n (by decide)).trans a3).trans (rv_up_n (by decide)).symm, fun t w ht hw => (rv_up_n (by omega)).trans (a4 t w ht hw), fun w hw => (rv_up_n (by omega)).trans (a5 w hw), fun t w ht hw => ⟨(rv_up_n (by omega)).trans (a6 t w ht hw).1, (a6 t w ht hw).2⟩⟩
theorem rv_R.hval1 {j  : Nat} {v : Int} (hB : rv_B G M0 B n lim m bt ha hd ns rs sx) (h : rv_R M0 n lim m bt ha hd ns rs sx t PL WA OA TO BI nm b g z r M) (hj : j = 2)  : rv_R M0 n lim m bt ha hd ns rs sx t (rv_up PL 7 v) WA OA TO BI nm b g z r (mj_p0 M ha j v) := by
  obtain ⟨gm, gbt, gha, ghd, gns, grs, -, -, -, -, -, -, -, -, -, gsx, -⟩ := hB
  obtain ⟨⟨h3, h5, h21, h22, h20, h18, h24, h19⟩, ht, ⟨a0, a1, a2, a3, a4, a5, a6⟩, hd1, hn, e1, e2, e3, e4⟩ := h
  have cm : ∀ k, (mj_p0 M ha j v).1 m k = M.1 m k := fun k => hn_n (Or.inl (hn_ne gm gha (by decide)))
  subst hj
  refine ⟨⟨(cm _).trans h3, (cm _).trans h5, ((cm _).trans h21).trans (rv_up_n (by decide)).symm, ((cm _).trans h22).trans (rv_up_n (by decide)).symm, fun k hk => by rw [cm, h20 k hk]; exact (rv_up_n (by omega)).symm, (cm _).trans h18, (cm _).trans h24, (cm _).trans h19⟩, ht.cg (fun k _ => cm k) rfl, ?_, fun s k a c => by rw [wz_c (hn_ne ghd gha (by decide))]; exact hd1 s k a c, hn, e1, e2, (wz_c (hn_ne gbt gha (by decide))).trans e3, e4.h (hn_ne gsx gha (by decide)) (hn_ne gm gha (by decide)) (by omega)⟩
  rw [wz_u]
  exact ⟨((rv_up_n (by decide)).trans a0).trans (rv_up_n (by decide)).symm, ((rv_up_n (by decide)).trans a1).trans (rv_up_n (by decide)).symm, rv_up_s.trans rv_up_s.symm, ((rv_up_n (by decide)).trans a3).trans (rv_up_n (by decide)).symm, fun t w ht hw => (rv_up_n (by omega)).trans (a4 t w ht hw), fun w hw => (rv_up_n (by omega)).trans (a5 w hw), fun t w ht hw => ⟨(rv_up_n (by omega)).trans (a6 t w ht hw).1, (a6 t w ht hw).2⟩⟩
theorem rv_R.hval2 {j  : Nat} {v : Int} (hB : rv_B G M0 B n lim m bt ha hd ns rs sx) (h : rv_R M0 n lim m bt ha hd ns rs sx t PL WA OA TO BI nm b g z r M) (hj : j = 3)  : rv_R M0 n lim m bt ha hd ns rs sx t (rv_up PL 8 v) WA OA TO BI nm b g z r (mj_p0 M ha j v) := by
  obtain ⟨gm, gbt, gha, ghd, gns, grs, -, -, -, -, -, -, -, -, -, gsx, -⟩ := hB
  obtain ⟨⟨h3, h5, h21, h22, h20, h18, h24, h19⟩, ht, ⟨a0, a1, a2, a3, a4, a5, a6⟩, hd1, hn, e1, e2, e3, e4⟩ := h
  have cm : ∀ k, (mj_p0 M ha j v).1 m k = M.1 m k := fun k => hn_n (Or.inl (hn_ne gm gha (by decide)))
  subst hj
  refine ⟨⟨(cm _).trans h3, (cm _).trans h5, ((cm _).trans h21).trans (rv_up_n (by decide)).symm, ((cm _).trans h22).trans (rv_up_n (by decide)).symm, fun k hk => by rw [cm, h20 k hk]; exact (rv_up_n (by omega)).symm, (cm _).trans h18, (cm _).trans h24, (cm _).trans h19⟩, ht.cg (fun k _ => cm k) rfl, ?_, fun s k a c => by rw [wz_c (hn_ne ghd gha (by decide))]; exact hd1 s k a c, hn, e1, e2, (wz_c (hn_ne gbt gha (by decide))).trans e3, e4.h (hn_ne gsx gha (by decide)) (hn_ne gm gha (by decide)) (by omega)⟩
  rw [wz_u]
  exact ⟨((rv_up_n (by decide)).trans a0).trans (rv_up_n (by decide)).symm, ((rv_up_n (by decide)).trans a1).trans (rv_up_n (by decide)).symm, ((rv_up_n (by decide)).trans a2).trans (rv_up_n (by decide)).symm, rv_up_s.trans rv_up_s.symm, fun t w ht hw => (rv_up_n (by omega)).trans (a4 t w ht hw), fun w hw => (rv_up_n (by omega)).trans (a5 w hw), fun t w ht hw => ⟨(rv_up_n (by omega)).trans (a6 t w ht hw).1, (a6 t w ht hw).2⟩⟩
theorem rv_R.shad {s k : Nat} (hB : rv_B G M0 B n lim m bt ha hd ns rs sx) (h : rv_R M0 n lim m bt ha hd ns rs sx t PL WA OA TO BI nm b g z r M) (hs : s < 4) (hk : k < 8) : rv_R M0 n lim m bt ha hd ns rs sx t PL WA (rv_up OA k (rv_bs (OA k) ((s + 4 : Nat) : Int))) TO BI nm b g z r (mj_p0 M hd s (rv_bs (M.1 hd s) (k : Int))) := by
  obtain ⟨gm, gbt, gha, ghd, gns, grs, -, -, -, -, -, -, -, -, -, gsx, -⟩ := hB
  obtain ⟨⟨h3, h5, h21, h22, h20, h18, h24, h19⟩, ht, hh, hd1, hn, e1, e2, e3, e4⟩ := h
  have cm : ∀ j, (mj_p0 M hd s (rv_bs (M.1 hd s) (k : Int))).1 m j = M.1 m j := fun j => hn_n (Or.inl (hn_ne gm ghd (by decide)))
  refine ⟨⟨(cm _).trans h3, (cm _).trans h5, (cm _).trans h21, (cm _).trans h22, fun k hk => by rw [cm, h20 k hk], (cm _).trans h18, (cm _).trans h24, (cm _).trans h19⟩, ht.cg (fun k _ => cm k) rfl, by rw [wz_c (hn_ne gha ghd (by decide))]; exact hh, fun s' k' a c => ?_, hn, e1, e2, (wz_c (hn_ne gbt ghd (by decide))).trans e3, e4.o (hn_ne gsx ghd (by decide)) (hn_ne gm ghd (by decide)) (hn_ne gha ghd (by decide))⟩
  rw [wz_u]
  by_cases cs : s' = s
  · rw [cs, rv_up_s, rv_bs_b _ k' k (by omega) (by omega)]
    by_cases ck : k' = k
    · rw [if_pos ck, ck, rv_up_s, rv_bs_b _ (s + 4) (s + 4) (by omega) (by omega), if_pos rfl]
    · rw [if_neg ck, rv_up_n ck]; exact hd1 s k' hs c
  · rw [rv_up_n cs, hd1 s' k' a c]
    by_cases ck : k' = k
    · rw [ck, rv_up_s, rv_bs_b _ (s' + 4) (s + 4) (by omega) (by omega), if_neg (by omega)]
    · rw [rv_up_n ck]
theorem rv_R.snm {j k : Nat} {w : List Int} (hB : rv_B G M0 B n lim m bt ha hd ns rs sx) (h : rv_R M0 n lim m bt ha hd ns rs sx t PL WA OA TO BI nm b g z r M) (hj : j = 8 + k) (hb : b = (k : Int)) (hw : rv_wo w) : rv_R M0 n lim m bt ha hd ns rs sx t PL WA OA TO BI (rv_upn nm k w) ((k : Int) + 1) g z r (mj_p1 M ns j (rv_8 w)) := by
  obtain ⟨gm, gbt, gha, ghd, gns, grs, -, -, -, r9, -, -, -, -, -, gsx, -⟩ := hB
  obtain ⟨h0, ht, hh, hd1, hn, e1, e2, e3, e4⟩ := h
  refine ⟨h0, ht.cg (fun _ _ => rfl) (wz_nl (Or.inl (hn_ne gm gns (by decide)))), hh, hd1, fun s hs => ?_, e1, (funext fun k => wz_nl (Or.inl (hn_ne grs gns (by decide)))).trans e2, e3, e4.1, e4.2.1, e4.2.2.1, fun a j' ha hn => (wz_nl ?_).trans (e4.2.2.2 a j' ha hn)⟩
  rotate_left
  · by_cases c : a = ns
    · exact Or.inr (fun e => hn ⟨by rw [c]; exact r9, by omega⟩)
    · exact Or.inl c
  subst hj
  unfold rv_upn
  by_cases c : s = k
  · rw [if_pos c, c]; exact ⟨wz_sl, hw⟩
  · rw [if_neg c]; exact ⟨(wz_nl (Or.inr (by omega))).trans (hn s (by omega)).1, (hn s (by omega)).2⟩
/-- a fault of the reference -/
def rv_FR (M0 : mj_M) (m sx ha : Nat) (f : Int) (a : Nat) (M : mj_M) : Prop := M.1 m 15 = f ∧ M.1 m 16 = (a : Int) ∧ rv_sw M0 sx m ha M
theorem r_nxt {d q : Nat} {Q : mj_P} (hB : rv_B G M0 B n lim m bt ha hd ns rs sx) (h : rv_R M0 n lim m bt ha hd ns rs sx t PL WA OA TO BI nm b g z r M) (hk : t.1 ≠ 0) (hk5 : t.1 ≠ 5) (hp : t.2.2.2.2 = q) (hq : q ≤ n) (hQ : ∀ M', rv_R M0 n lim m bt ha hd ns rs sx (rv_T B n lim q) PL WA OA TO BI nm b g z r M' → Q none G M') : mj_R mj_tab (d + 2) 216 [.inr (.inr (some m))] G M Q := by
  obtain ⟨gm, gbt, gha, ghd, gns, grs, r1, r7, r23, r9, r10, rb, rr, n1, n2, gsx, r6⟩ := hB
  obtain ⟨⟨h3, h5, h21, h22, h20, h18, h24, h19⟩, ht, hh, hd1, hn, e1, e2, e3, e4⟩ := h
  refine r_X12_next (d := d) (B := B) (n := n) (lim := lim) (p := q) gm gbt n1 (by rw [e1]; exact r1) h3 h5 (by rw [ht.2.2.2.2.2 hk hk5, hp]) (fun k => by rw [e3]; exact rb k) (fun M' hM => hQ M' ?_)
  obtain ⟨o1, o2, o3, -⟩ := id hM
  have oc : ∀ a, a ≠ m → M'.1 a = M.1 a := fun a ha => funext fun k => o1 a k (fun e => ha e.1)
  have om : ∀ k, ¬ k ∈ [4, 11, 12, 13, 14] → M'.1 m k = M.1 m k := fun k hk => o1 m k (fun e => hk e.2)
  have ol : ∀ a, a ≠ m → M'.2.1 a = M.2.1 a := fun a ha => funext fun k => o2 a k (fun e => ha e.1)
  refine ⟨⟨(om 3 (by decide)).trans h3, (om 5 (by decide)).trans h5, (om 21 (by decide)).trans h21, (om 22 (by decide)).trans h22, fun k hk => by rw [om 20 (by decide)]; exact h20 k hk, (om 18 (by decide)).trans h18, (om 24 (by decide)).trans h24, (om 19 (by decide)).trans h19⟩, rv_tq_of (rv_T_w hq).1 (rv_nx_T hq hM), by rw [oc ha (hn_ne gha gm (by decide))]; exact hh, fun s k a c => by rw [oc hd (hn_ne ghd gm (by decide))]; exact hd1 s k a c, fun k hk => ⟨(congrFun (ol ns (hn_ne gns gm (by decide))) _).trans (hn k hk).1, (hn k hk).2⟩, o3.trans e1, (ol rs (hn_ne grs gm (by decide))).trans e2, (oc bt (hn_ne gbt gm (by decide))).trans e3, e4.c oc om ol (hn_ne gsx gm (by decide)) (hn_ne gha gm (by decide))⟩
end RS
