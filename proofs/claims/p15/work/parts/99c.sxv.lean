/-! ===== one instruction of the symbolic run ===== -/
theorem sx_RS.c {w : sx_w} {x : sx_V} {v : mj_V} {t : List sx_V} {t' : List mj_V} (hS : sx_RS w t t') (hv : sx_RV w x v) : sx_RS w (x :: t) (v :: t') := ⟨v, t', rfl, hv, hS⟩
theorem sx_RI.v {w : sx_w} {x : sx_I} {z : Int} (h : sx_RI w x z) : sx_RV w (.inl x) (.inl z) := ⟨z, rfl, h⟩
theorem sx_RO.v {w : sx_w} {x r : Option Nat} (h : sx_RO w x r) : sx_RV w (.inr (.inr x)) (.inr (.inr r)) := ⟨r, rfl, h⟩
theorem sx_RV.l {w : sx_w} {x : Int64} : sx_RV w (.inr (.inl x)) (.inr (.inl x)) := rfl
def sx_Sem (q : sx_q) (y d : Nat) (rest : List mj_E) (L : sx_L) (st : List sx_V) (cb sb : Nat) (fs : List sx_F) (h : sx_H) (Y : sx_Y) : Prop := ∀ (w : sx_w) (L' : mj_L) (st' : List mj_V) (G : mj_G) (M : mj_M) (Q : mj_P) (Z : mj_S), sx_cz q fs y d Q Z → sx_RL w L L' → sx_RS w st st' → sx_RF q w fs Q → sx_RH w h G M → sx_RY w Y → Z rest L' st' G M cb sb
def sx_ks (q : sx_q) (K : sx_K) : Prop := ∀ y d rest L st cb sb fs h Y, K y d rest L st cb sb fs h Y = true → sx_Sem q y d rest L st cb sb fs h Y
theorem sx_call_s {q : sx_q} {K : sx_K} (hK : sx_ks q K) {y d : Nat} {rest : List mj_E} {L : sx_L} {st : List sx_V} {cb sb : Nat} {fs : List sx_F} {h : sx_H} {Y : sx_Y} {f : Nat} {av : List sx_V} {w : sx_w} {L' : mj_L} {st' av' : List mj_V} {G : mj_G} {M : mj_M} {Q : mj_P} {Z : mj_S} (hk : sx_call K y d rest L st cb sb fs h Y f av = true) (hz : sx_cz q fs y d Q Z) (hL : sx_RL w L L') (hS : sx_RS w st st') (hA : sx_RS w av av') (hF : sx_RF q w fs Q) (hH : sx_RH w h G M) (hY : sx_RY w Y) :
    mj_cat st' ≤ 8 ∧ (sx_ms f).1 ≤ cb ∧ (sx_ms f).2 ≤ sb ∧ mj_R mj_tab d f av' G M fun r G M => Z rest L' (mj_ret r st') G M (cb - (sx_ms f).1) (sb - (sx_ms f).2) := by
  cases d with
  | zero => cases hk
  | succ d =>
    obtain ⟨hc, hk⟩ := sx_cd hk
    obtain ⟨c1, hc⟩ := sx_nd hc
    obtain ⟨c2, hc⟩ := sx_nd hc
    obtain ⟨c3, hc⟩ := sx_nd hc
    obtain ⟨c4, c5⟩ := sx_nd hc
    refine ⟨by rw [← sx_cat_s hS]; exact sx_ble c1, sx_ble c2, sx_ble c3, by rw [← sx_wd_s hA]; exact sx_ble c4, ?_⟩
    intro Z' hZ'
    have hfull : sx_full f = (mj_tab f).2.2.2.2.1 := by unfold sx_full; rw [c5]; rfl
    refine hK _ _ _ _ _ _ _ _ _ _ hk w _ _ G M _ Z' ⟨by rw [hfull]; exact hZ', fun q => by cases q⟩ (sx_en_s _ hA) rfl ⟨L', st', Q, Z, hz, hL, hS, hF, fun r G M h => h⟩ hH hY
theorem sx_back_s {q : sx_q} {K : sx_K} (hK : sx_ks q K) {fs : List sx_F} {h : sx_H} {Y : sx_Y} {w : sx_w} {G : mj_G} {M : mj_M} {Q : mj_P} {r : Option sx_V} {r' : Option mj_V} (hk : sx_back K fs h Y r = true) (hr : match r with
    | none => r' = none
    | some v => ∃ v', r' = some v' ∧ sx_RV w v v') (hF : sx_RF q w fs Q) (hH : sx_RH w h G M) (hY : sx_RY w Y) : Q r' G M := by
  match fs, hk, hF with
  | [], hk, hF =>
    cases r with
    | none => cases hk
    | some v =>
      rcases v with x | x
      · have hk : sx_kn Y x (fun z => sx_eq z (.ofNat 1)) = true := hk
        obtain ⟨v', rfl, z, rfl, hz⟩ := hr
        have hz1 := sx_kn_s hk hY hz
        have := sx_eq_iff.mp hz1
        rw [show z = 1 from this]
        exact hF.1 G M
      · cases hk
  | (y, d, rest, L, st, cb, sb) :: fs, hk, hF =>
    obtain ⟨L', st', Q', Z, z1, z2, z3, z4, z5⟩ := hF
    cases r with
    | none =>
      obtain rfl : r' = none := hr
      exact z5 none G M (hK _ _ _ _ _ _ _ _ _ _ hk w L' st' G M Q' Z z1 z2 z3 z4 hH hY)
    | some v =>
      obtain ⟨v', rfl, hv⟩ := hr
      exact z5 (some v') G M (hK _ _ _ _ _ _ _ _ _ _ hk w L' (v' :: st') G M Q' Z z1 z2 ⟨v', st', rfl, hv, z3⟩ z4 hH hY)
theorem sx_lib_s {w : sx_w} {f : Nat} {Y : sx_Y} {st : List sx_V} {st' : List mj_V} {h : sx_H} {G : mj_G} {M : mj_M} {k : List sx_V → sx_H → Bool} {k' : List mj_V → mj_M → Prop} (hk : sx_lib f Y st h k = true) (hS : sx_RS w st st') (hH : sx_RH w h G M) (hY : sx_RY w Y) (kk : ∀ t t' h' M', k t h' = true → sx_RS w t t' → sx_RH w h' G M' → k' t' M') : mj_lib f st' G M k' := by
  unfold sx_lib at hk
  split at hk
  · obtain ⟨y, t, zy, t', rfl, hy, hS, hk⟩ := sx_i1_s hk hS
    obtain ⟨x, t, zx, t', rfl, hx, hS, hk⟩ := sx_i1_s hk hS
    obtain ⟨h8, hk⟩ := sx_cd hk
    have hk := sx_kn_s (sx_kn_s hk hY hx) hY hy
    refine ⟨by rw [← sx_cat_s hS]; exact sx_ble h8, fun z h1 h2 => kk _ _ h M hk (hS.c (sx_RI.v ?_)) hH⟩
    show cond (sx_le zy zx) zx zy = z
    cases e : sx_le zy zx with
    | true => have := sx_le_iff.mp e; rw [h2 (by omega)]; rfl
    | false => have := sx_le_no (x := zy) (y := zx) (by rw [e]; exact Bool.false_ne_true); rw [h1 this]; rfl
  · obtain ⟨y, t, zy, t', rfl, hy, hS, hk⟩ := sx_i1_s hk hS
    obtain ⟨x, t, zx, t', rfl, hx, hS, hk⟩ := sx_i1_s hk hS
    obtain ⟨h8, hk⟩ := sx_cd hk
    have hk := sx_kn_s (sx_kn_s hk hY hx) hY hy
    refine ⟨by rw [← sx_cat_s hS]; exact sx_ble h8, fun z h1 h2 => kk _ _ h M hk (hS.c (sx_RI.v ?_)) hH⟩
    show cond (sx_le zx zy) zx zy = z
    cases e : sx_le zx zy with
    | true => have := sx_le_iff.mp e; rw [h2 (by omega)]; rfl
    | false => have := sx_le_no (x := zx) (y := zy) (by rw [e]; exact Bool.false_ne_true); rw [h1 this]; rfl
  · obtain ⟨n, t, zn, t', rfl, hn, hS, hk⟩ := sx_i1_s hk hS
    obtain ⟨dp, t, zd, t', rfl, hd, hS, hk⟩ := sx_i1_s hk hS
    obtain ⟨b, t, t', rfl, hb, hS, hk⟩ := sx_a1_s hk hS
    obtain ⟨sp, t, zs, t', rfl, hs, hS, hk⟩ := sx_i1_s hk hS
    obtain ⟨a, t, t', rfl, ha, hS, hk⟩ := sx_a1_s hk hS
    have hk := sx_kn_s (sx_kn_s (sx_kn_s hk hY hn) hY hd) hY hs
    rw [sx_cl_eq, sx_cl_eq] at hk
    obtain ⟨hc, hk⟩ := sx_cd hk
    obtain ⟨c1, hc⟩ := sx_nd hc
    obtain ⟨c2, hc⟩ := sx_nd hc
    obtain ⟨c3, hc⟩ := sx_nd hc
    obtain ⟨c4, hc⟩ := sx_nd hc
    obtain ⟨c5, hc⟩ := sx_nd hc
    obtain ⟨c6, hc⟩ := sx_nd hc
    obtain ⟨c7, hc⟩ := sx_nd hc
    obtain ⟨c8, hc⟩ := sx_nd hc
    obtain ⟨c9, hc⟩ := sx_nd hc
    obtain ⟨c10, c11⟩ := sx_nd hc
    have c4 : 0 ≤ zs := sx_le_iff.mp c4
    have c5 : 0 ≤ zd := sx_le_iff.mp c5
    have c6 : 0 ≤ zn := sx_le_iff.mp c6
    have c7 := sx_ble c7
    have c8 := sx_ble c8
    have c9 := sx_ble c9
    have c10 := sx_ble c10
    obtain ⟨u, u1, hk⟩ := sx_cpa_s _ hk (by omega)
    rw [sx_pt_eq] at hk
    obtain ⟨a1, a2, a3⟩ := hH.2.2.1 a (by rw [hH.1]; exact ha)
    obtain ⟨b1, b2, b3⟩ := hH.2.2.1 b (by rw [hH.1]; exact hb)
    refine ⟨_, _, a1, sx_beq c1, _, _, b1, sx_beq c2, sx_blt c3, c4, c5, c6, by omega, by omega, by rw [← sx_cat_s hS]; exact sx_ble c11, kk _ _ _ _ hk hS (hH.put hb ⟨b1, b2, fun q hq => ⟨?_, (b3 q hq).2⟩⟩ (fun x hx => ⟨fun k => ?_, fun _ => rfl, fun _ => rfl⟩))⟩
    · show sx_RI w (sx_g u q) (if w.2.2.2 b = w.2.2.2 b ∧ zd.toNat ≤ q ∧ q < zd.toNat + zn.toNat then M.1 (w.2.2.2 a) (zs.toNat + (q - zd.toNat)) else M.1 (w.2.2.2 b) q)
      rw [u1 q hq]
      by_cases e : zd.toNat ≤ q ∧ q < zd.toNat + zn.toNat
      · rw [if_pos e, if_pos ⟨rfl, e⟩]; exact (a3 _ (by omega)).1
      · rw [if_neg e, if_neg (fun v => e v.2)]; exact (b3 q hq).1
    · show (if x = w.2.2.2 b ∧ zd.toNat ≤ k ∧ k < zd.toNat + zn.toNat then M.1 (w.2.2.2 a) (zs.toNat + (k - zd.toNat)) else M.1 x k) = M.1 x k
      rw [if_neg (fun v => hx v.1)]
  · obtain ⟨n, t, zn, t', rfl, hn, hS, hk⟩ := sx_i1_s hk hS
    obtain ⟨dp, t, zd, t', rfl, hd, hS, hk⟩ := sx_i1_s hk hS
    obtain ⟨b, t, t', rfl, hb, hS, hk⟩ := sx_a1_s hk hS
    obtain ⟨sp, t, zs, t', rfl, hs, hS, hk⟩ := sx_i1_s hk hS
    obtain ⟨a, t, t', rfl, ha, hS, hk⟩ := sx_a1_s hk hS
    have hk := sx_kn_s (sx_kn_s (sx_kn_s hk hY hn) hY hd) hY hs
    rw [sx_cl_eq, sx_cl_eq] at hk
    obtain ⟨hc, hk⟩ := sx_cd hk
    obtain ⟨c1, hc⟩ := sx_nd hc
    obtain ⟨c2, hc⟩ := sx_nd hc
    obtain ⟨c3, hc⟩ := sx_nd hc
    obtain ⟨c4, hc⟩ := sx_nd hc
    obtain ⟨c5, hc⟩ := sx_nd hc
    obtain ⟨c6, hc⟩ := sx_nd hc
    obtain ⟨c7, hc⟩ := sx_nd hc
    obtain ⟨c8, hc⟩ := sx_nd hc
    obtain ⟨c9, hc⟩ := sx_nd hc
    obtain ⟨c10, c11⟩ := sx_nd hc
    have c4 : 0 ≤ zs := sx_le_iff.mp c4
    have c5 : 0 ≤ zd := sx_le_iff.mp c5
    have c6 : 0 ≤ zn := sx_le_iff.mp c6
    have c7 := sx_ble c7
    have c8 := sx_ble c8
    have c9 := sx_ble c9
    have c10 := sx_ble c10
    obtain ⟨u, u1, hk⟩ := sx_cpa_s _ hk (by omega)
    rw [sx_pt_eq] at hk
    obtain ⟨a1, a2, a3⟩ := hH.2.2.1 a (by rw [hH.1]; exact ha)
    obtain ⟨b1, b2, b3⟩ := hH.2.2.1 b (by rw [hH.1]; exact hb)
    refine ⟨_, _, a1, sx_beq c1, _, _, b1, sx_beq c2, sx_blt c3, c4, c5, c6, by omega, by omega, by rw [← sx_cat_s hS]; exact sx_ble c11, kk _ _ _ _ hk hS (hH.put hb ⟨b1, b2, fun q hq => ⟨(b3 q hq).1, ?_, (b3 q hq).2.2⟩⟩ (fun x hx => ⟨fun _ => rfl, fun k => ?_, fun _ => rfl⟩))⟩
    · show (if w.2.2.2 b = w.2.2.2 b ∧ zd.toNat ≤ q ∧ q < zd.toNat + zn.toNat then M.2.1 (w.2.2.2 a) (zs.toNat + (q - zd.toNat)) else M.2.1 (w.2.2.2 b) q) = sx_g u q
      rw [u1 q hq]
      by_cases e : zd.toNat ≤ q ∧ q < zd.toNat + zn.toNat
      · rw [if_pos e, if_pos ⟨rfl, e⟩]; exact (a3 _ (by omega)).2.1
      · rw [if_neg e, if_neg (fun v => e v.2)]; exact (b3 q hq).2.1
    · show (if x = w.2.2.2 b ∧ zd.toNat ≤ k ∧ k < zd.toNat + zn.toNat then M.2.1 (w.2.2.2 a) (zs.toNat + (k - zd.toNat)) else M.2.1 x k) = M.2.1 x k
      rw [if_neg (fun v => hx v.1)]
  · cases hk
theorem sx_get_s {w : sx_w} {ci fk : Nat} {st : List sx_V} {st' : List mj_V} {h : sx_H} {G : mj_G} {M : mj_M} {k : List sx_V → Bool} {k' : List mj_V → Prop} (hk : sx_get ci fk st h k = true) (hS : sx_RS w st st') (hH : sx_RH w h G M) (kk : ∀ t t', k t = true → sx_RS w t t' → k' t') : mj_get ci fk st' G M k' := by
  obtain ⟨hf, hk⟩ := sx_cd hk
  have hf := sx_blt hf
  obtain ⟨i, t, t', rfl, hi, hS, hk⟩ := sx_a1_s hk hS
  rw [sx_cl_eq] at hk
  obtain ⟨ht, hk⟩ := sx_cd hk
  obtain ⟨c1, c2, c3⟩ := hH.2.2.1 i (by rw [hH.1]; exact hi)
  obtain ⟨d1, d2, d3⟩ := c3 fk hf
  refine ⟨_, _, c1, sx_beq ht, ?_⟩
  split at hk
  · rename_i e
    rw [e]
    exact kk _ _ hk (hS.c d1.v)
  · rename_i e
    rw [e]
    exact kk _ _ hk (hS.c (by rw [← d2]; exact sx_RV.l))
  · rename_i e1 e2
    have hg : mj_rf (M.2.2 (w.2.2.2 i) fk) fun v => k' (v :: t') := ⟨fun b hb => kk _ _ hk (hS.c (sx_RO.v (hb ▸ d3))), fun hb => kk _ _ hk (hS.c (sx_RO.v (hb ▸ d3)))⟩
    split
    · rename_i e; exact absurd e e1
    · rename_i e; exact absurd e e2
    · exact hg
theorem sx_wr_s {w : sx_w} {h : sx_H} {i s : Nat} {k : Bool} {G : mj_G} {M : mj_M} (hk : sx_wr h i s k = true) (hH : sx_RH w h G M) (hi : i < w.2.2.1) : (∃ t n, G (w.2.2.2 i) = (t, n) ∧ t % 1000 = s ∧ t < 900000) ∧ k = true := by
  unfold sx_wr at hk
  rw [sx_cl_eq] at hk
  obtain ⟨hc, hk⟩ := sx_cd hk
  obtain ⟨h1, h2⟩ := sx_nd hc
  obtain ⟨c1, c2, c3⟩ := hH.2.2.1 i (by rw [hH.1]; exact hi)
  exact ⟨⟨_, _, c1, sx_beq h1, sx_blt h2⟩, hk⟩
theorem sx_put_s {w : sx_w} {ci fk : Nat} {Y : sx_Y} {st : List sx_V} {st' : List mj_V} {h : sx_H} {G : mj_G} {M : mj_M} {k : List sx_V → sx_H → Bool} {k' : List mj_V → mj_M → Prop} (hk : sx_put ci fk Y st h k = true) (hS : sx_RS w st st') (hH : sx_RH w h G M) (hY : sx_RY w Y) (kk : ∀ t t' h' M', k t h' = true → sx_RS w t t' → sx_RH w h' G M' → k' t' M') : mj_put ci fk st' G M k' := by
  unfold sx_put at hk
  unfold mj_put
  split at hk
  · rename_i e
    rw [e]
    obtain ⟨x, t, z, t', rfl, hx, hS, hk⟩ := sx_i1_s hk hS
    obtain ⟨i, t, t', rfl, hi, hS, hk⟩ := sx_a1_s hk hS
    obtain ⟨⟨tt, n, g1, g2, g3⟩, hk⟩ := sx_wr_s hk hH hi
    obtain ⟨hb, hk⟩ := sx_nd hk
    obtain ⟨h', u1, u2⟩ := sx_p0_s hk hH hi hx
    refine ⟨tt, n, g1, g2, g3, fun q => ?_, kk _ _ _ _ u2 hS u1⟩
    rw [q] at hb
    exact sx_tf_s hb hY hx
  · rename_i e
    rw [e]
    obtain ⟨x, t, t', rfl, hS, hk⟩ := sx_l1_s hk hS
    obtain ⟨i, t, t', rfl, hi, hS, hk⟩ := sx_a1_s hk hS
    obtain ⟨⟨tt, n, g1, g2, g3⟩, hk⟩ := sx_wr_s hk hH hi
    obtain ⟨h', u1, u2⟩ := sx_p1_s hk hH hi
    exact ⟨tt, n, g1, g2, g3, kk _ _ _ _ u2 hS u1⟩
  · rename_i e1 e2
    obtain ⟨x, t, z, t', rfl, hx, hS, hk⟩ := sx_r1_s hk hS
    obtain ⟨i, t, t', rfl, hi, hS, hk⟩ := sx_a1_s hk hS
    obtain ⟨⟨tt, n, g1, g2, g3⟩, hk⟩ := sx_wr_s hk hH hi
    obtain ⟨h', u1, u2⟩ := sx_p2_s hk hH hi hx
    split
    · rename_i e; exact absurd e e1
    · rename_i e; exact absurd e e2
    · exact ⟨tt, n, g1, g2, g3, kk _ _ _ _ u2 hS u1⟩
