/-! ===== calls, what comes back, arrivals ===== -/
theorem ab_ctr_s {c : ab_co} {kk : Option ab_V → ab_Y → ab_R → ab_m → Bool} {d dd f : Nat} {Y : ab_Y} {R : ab_R} {m : ab_m} {av : List ab_V} {q : ab_co} {w : ab_wd} {G : mj_G} {M0 M : mj_M} {av' : List mj_V} {Q : mj_P} (h : ab_ctr c kk d Y R m f av q = true) (hq : ab_ok q) (hd : d ≤ dd) (hY : ab_RY w Y) (hR : ab_RR w G R) (hM : ab_RM w M m) (hI : ab_Inv G M) (hF : ab_frm (ab_w c) G M0 M) (hA : ab_RS w av av') (k2 : ∀ w' r r' Y' R' m' M', ab_up w w' → ab_RY w' Y' → ab_RR w' G R' → ab_RM w' M' m' → ab_Inv G M' → ab_frm (ab_w c) G M0 M' → ab_ov w' r r' → kk r Y' R' m' = true → Q r' G M') : mj_R mj_tab dd f av' G M Q := by
  unfold ab_ctr at h
  obtain ⟨h1, h⟩ := sx_nd h
  obtain ⟨h2, h⟩ := sx_nd h
  obtain ⟨h3, h⟩ := sx_nd h
  have h1 := sx_beq h1
  have h2 := sx_blt h2
  obtain ⟨sg, rf, w1, Y1, R1, m1, u1, u2, u3, u4, u5, u6, u7, u8, p1, p2, p3, p4, p5, p6, h⟩ := ab_mt_s h hY hR hM hI (ab_RS_RL hA) (fun i x hx => by
      have : ∀ (n i : Nat), sx_nt (List.replicate n (none : Option ab_I)) i = none := by
        intro n
        induction n with
        | zero => intro i; rfl
        | succ n ih => intro i; cases i with
          | zero => rfl
          | succ i => exact ih i
      rw [this] at hx; cases hx) (fun i x hx => by
      have : ∀ (n i : Nat), sx_nt (List.replicate n (none : Option Nat)) i = none := by
        intro n
        induction n with
        | zero => intro i; rfl
        | succ n ih => intro i; cases i with
          | zero => rfl
          | succ i => exact ih i
      rw [this] at hx; cases hx)
  obtain ⟨d', rfl⟩ : ∃ d', dd = d' + 1 := ⟨dd - 1, by omega⟩
  rw [← h1]
  refine hq d' (by omega) G M _ av' Q p1 p2 p3 p4 hI (fun r M' hI' hF' ⟨po, hpo, hr, hms⟩ => ?_)
  have h := List.all_eq_true.mp h po hpo
  have hp : ∀ i x z, sx_nt sg i = some x → ab_RI w1 x z → (ab_wp (ab_p q) sg rf w1).2.1 i = z := fun i x z g1 g2 => ab_wp_r g1 g2
  have hrf : ∀ j u, sx_nt rf j = some u → u < w1.2.2.1 ∧ (ab_wp (ab_p q) sg rf w1).2.2.2 j = w1.2.2.2 u := fun j u g1 => ⟨(u8 j u g1).1, ab_wp_s g1⟩
  obtain ⟨w2, Y2, m2, o1, o2, o3, h⟩ := ab_pi_s _ _ _ _ w1 h u2 (ab_kw_s u2 u3 u4 hF') u7 hp hrf hms
  have hp2 : ∀ i x z, sx_nt sg i = some x → ab_RI w2 x z → (ab_wp (ab_p q) sg rf w1).2.1 i = z := fun i x z g1 g2 => by
    obtain ⟨z0, g3⟩ := u7 i x g1
    rw [ab_RI.fn g2 (g3.up o1.1)]
    exact hp i x z0 g1 g3
  obtain ⟨w3, rv, Y3, R3, v1, v2, v3, v4, h⟩ := ab_ri_s h o2 (u3.ey o1) (u7.up o1.1) hp2 hr
  exact k2 w3 rv r Y3 R3 m2 M' (u1.tr (o1.1.tr v1)) v2 v3 (o3.up v1) hI' (fun x k hk => by
    have g := hF' x k (fun q => hk (ab_cov_all h3 q))
    have g2 := hF x k hk
    exact ⟨g.1.trans g2.1, g.2.trans g2.2⟩) v4 h
section ABC
variable {c : ab_co} {id : Nat} {G : mj_G} {M0 : mj_M} {w0 wA : ab_wd} {A : Option (List (ab_I × Nat))}
theorem ab_call_s {K : ab_K} (hK : ab_ks c G M0 w0 wA A K) (hok : ∀ j, j < id → ab_ok (ab_tb j)) {y d i : Nat} {rest : List mj_E} {L : ab_L} {st : List ab_V} {fs : List ab_F} {Y : ab_Y} {R : ab_R} {m : ab_m} {E : ab_E} {f : Nat} {av : List ab_V} {w : ab_wd} {L' : mj_L} {st' av' : List mj_V} {M : mj_M} {Q : mj_P} {Z : mj_S} {dd cb sb : Nat} (h : ab_call c id K y d i rest L st fs Y R m E f av = true) (hd : d ≤ dd) (hz : ab_cz c G M0 w0 wA A fs y dd Q Z) (hi : rest = (ab_full y).drop i) (hL : ab_RL w L L') (hS : ab_RS w st st') (hA : ab_RS w av av') (hF : ab_RF c G M0 w0 wA A w fs Q) (hY : ab_RY w Y) (hR : ab_RR w G R) (hM : ab_RM w M m) (hE : ab_RE w E) (hI : ab_Inv G M) (hFm : ab_frm (ab_w c) G M0 M) (hu : ab_up w0 w) (huA : ab_up wA w) :
    mj_cat st' ≤ 8 ∧ (sx_ms f).1 ≤ cb ∧ (sx_ms f).2 ≤ sb ∧ mj_R mj_tab dd f av' G M fun r G M => Z rest L' (mj_ret r st') G M (cb - (sx_ms f).1) (sb - (sx_ms f).2) := by
  unfold ab_call at h
  obtain ⟨hc, h⟩ := sx_cd h
  obtain ⟨c1, hc⟩ := sx_nd hc
  obtain ⟨c2, hc⟩ := sx_nd hc
  obtain ⟨c3, c4⟩ := sx_nd hc
  have c2 : (sx_ms f).1 = 0 := sx_beq c2
  have c3 : (sx_ms f).2 = 0 := sx_beq c3
  rw [c2, c3]
  refine ⟨by rw [← ab_cat_s hS]; exact sx_ble c1, Nat.zero_le _, Nat.zero_le _, ?_⟩
  show mj_R mj_tab dd f av' G M fun r G M => Z rest L' (mj_ret r st') G M cb sb
  split at h
  · cases d with
    | zero => cases h
    | succ d =>
      dsimp only at h
      obtain ⟨d', rfl⟩ : ∃ d', dd = d' + 1 := ⟨dd - 1, by omega⟩
      refine ⟨by rw [← ab_wd_s hA]; exact sx_ble c4, ?_⟩
      intro Z' hZ'
      exact hK _ _ _ _ _ _ _ _ _ _ _ h w _ _ M _ Z' d' _ _ (by omega) ⟨hZ', fun q => by cases q⟩ rfl (ab_en_s _ hA) rfl ⟨L', st', Q, Z, d' + 1, cb, sb, hd, hz, hi, hL, hS, hF, fun r M h => h⟩ hY hR hM hE hI hFm hu huA
  · obtain ⟨j, hj, h⟩ := List.any_eq_true.mp h
    obtain ⟨h1, h⟩ := sx_nd h
    refine ab_ctr_s h (hok j (sx_blt h1)) hd hY hR hM hI hFm hA (fun w' r r' Y' R' m' M' u1 u2 u3 u4 u5 u6 u7 h => ?_)
    cases r with
    | none =>
      obtain rfl : r' = none := u7
      exact hK _ _ _ _ _ _ _ _ _ _ _ h w' L' st' M' Q Z dd cb sb hd hz hi (hL.up u1) (hS.up u1) (hF.up u1) u2 u3 u4 (hE.up u1) u5 u6 (hu.tr u1) (huA.tr u1)
    | some v =>
      obtain ⟨v', rfl, hv⟩ := u7
      exact hK _ _ _ _ _ _ _ _ _ _ _ h w' L' (v' :: st') M' Q Z dd cb sb hd hz hi (hL.up u1) ((hS.up u1).c hv) (hF.up u1) u2 u3 u4 (hE.up u1) u5 u6 (hu.tr u1) (huA.tr u1)
theorem ab_ret_s {K : ab_K} (hK : ab_ks c G M0 w0 wA A K) (h1 : w0.1 = (ab_p c).1.length) (h2 : w0.2.2.1 = (ab_p c).2.1.length) {fs : List ab_F} {Y : ab_Y} {R : ab_R} {m : ab_m} {E : ab_E} {r : Option ab_V} {r' : Option mj_V} {w : ab_wd} {M : mj_M} {Q : mj_P} (h : ab_ret c K fs Y R m E r = true) (hr : ab_ov w r r') (hF : ab_RF c G M0 w0 wA A w fs Q) (hY : ab_RY w Y) (hR : ab_RR w G R) (hM : ab_RM w M m) (hE : ab_RE w E) (hI : ab_Inv G M) (hFm : ab_frm (ab_w c) G M0 M) (hu : ab_up w0 w) (huA : ab_up wA w) : Q r' G M := by
  match fs, h, hF with
  | [], h, hF =>
    obtain ⟨po, hpo, h⟩ := List.any_eq_true.mp h
    obtain ⟨k1, h⟩ := sx_nd h
    obtain ⟨g1, g2⟩ := sx_nd h
    unfold ab_pk at k1
    obtain ⟨k1, k2⟩ := sx_nd k1
    rw [← h1, ← h2] at k2
    exact hF r' M hI hFm ⟨po, hpo, ab_pr_s g1 (by rw [h1]; exact k1) hY hR hu hr, ab_pm_s hI _ _ _ w g2 k2 hY hR hM hu⟩
  | (y, d, i, rest, L, st) :: fs, h, hF =>
    obtain ⟨L', st', Q', Z, dd, cb, sb, z0, z1, z2, z3, z4, z5, z6⟩ := hF
    cases r with
    | none =>
      obtain rfl : r' = none := hr
      exact z6 none M (hK _ _ _ _ _ _ _ _ _ _ _ h w L' st' M Q' Z dd cb sb z0 z1 z2 z3 z4 z5 hY hR hM hE hI hFm hu huA)
    | some v =>
      obtain ⟨v', rfl, hv⟩ := hr
      exact z6 (some v') M (hK _ _ _ _ _ _ _ _ _ _ _ h w L' (v' :: st') M Q' Z dd cb sb z0 z1 z2 z3 (z4.c hv) z5 hY hR hM hE hI hFm hu huA)
theorem ab_rk_s : ∀ {P R : ab_R} {n j : Nat} {q : Nat × Nat}, ab_rk P R n = true → j < n → ab_nR P j = some q → ∃ q', ab_nR R j = some q' ∧ ab_ts q q' = true
  | _, _, 0, _, _, _, h, _ => by omega
  | [], _, _ + 1, _, _, h, _, _ => by cases h
  | _ :: _, [], _ + 1, _, _, h, _, _ => by cases h
  | p :: ps, r :: rs, n + 1, 0, q, h, _, hq => by
    cases hq
    exact ⟨r, rfl, (sx_nd h).1⟩
  | p :: ps, r :: rs, n + 1, j + 1, q, h, hj, hq => ab_rk_s (P := ps) (R := rs) (n := n) (j := j) (sx_nd h).2 (by omega) hq
theorem ab_idr_s : ∀ (k n i : Nat) (t : ab_sg) (x : ab_I), (i < k → sx_nt (ab_idr n k ++ t) i = some (.inr (n + i, 1, .ofNat 0))) ∧ (k ≤ i → sx_nt (ab_idr n k ++ t) i = sx_nt t (i - k))
  | 0, n, i, t, x => ⟨fun h => by omega, fun _ => rfl⟩
  | k + 1, n, 0, t, x => ⟨fun _ => rfl, fun h => by omega⟩
  | k + 1, n, i + 1, t, x => by
    obtain ⟨h1, h2⟩ := ab_idr_s k (n + 1) i t x
    refine ⟨fun h => ?_, fun h => ?_⟩
    · rw [show n + (i + 1) = n + 1 + i by omega]
      exact h1 (by omega)
    · rw [show i + 1 - (k + 1) = i - k by omega]
      exact h2 (by omega)
theorem ab_idq_s : ∀ (k n i : Nat) (t : ab_rr), (i < k → sx_nt (ab_idq n k ++ t) i = some (n + i)) ∧ (k ≤ i → sx_nt (ab_idq n k ++ t) i = sx_nt t (i - k))
  | 0, n, i, t => ⟨fun h => by omega, fun _ => rfl⟩
  | k + 1, n, 0, t => ⟨fun _ => rfl, fun h => by omega⟩
  | k + 1, n, i + 1, t => by
    obtain ⟨h1, h2⟩ := ab_idq_s k (n + 1) i t
    refine ⟨fun h => ?_, fun h => ?_⟩
    · rw [show n + (i + 1) = n + 1 + i by omega]
      exact h1 (by omega)
    · rw [show i + 1 - (k + 1) = i - k by omega]
      exact h2 (by omega)
theorem ab_rep_n {β : Type} : ∀ (n i : Nat), sx_nt (List.replicate n (none : Option β)) i = none
  | 0, _ => rfl
  | _ + 1, 0 => rfl
  | n + 1, i + 1 => ab_rep_n n i
theorem ab_arr_s {i : Nat} {L : ab_L} {st : List ab_V} {Y : ab_Y} {R : ab_R} {m : ab_m} {w : ab_wd} {L' : mj_L} {st' : List mj_V} {M : mj_M} {Z : mj_S} {cb sb : Nat} (h : ab_arr c A i L st Y R m = true) (h1 : w0.1 = (ab_p c).1.length) (h2 : w0.2.2.1 = (ab_p c).2.1.length) (hA : ∀ A', A = some A' → ∀ q ∈ A', ∃ z, ab_RI wA q.1 z) (hz : ab_ih c G M0 w0 wA A Z) (hL : ab_RL w L L') (hS : ab_RS w st st') (hY : ab_RY w Y) (hR : ab_RR w G R) (hM : ab_RM w M m) (hI : ab_Inv G M) (hFm : ab_frm (ab_w c) G M0 M) (hu : ab_up w0 w) (huA : ab_up wA w) : Z ((ab_full (ab_y c)).drop i) L' st' G M cb sb := by
  unfold ab_arr at h
  obtain ⟨hs, h⟩ := sx_nd h
  obtain rfl : st = [] := by
    cases st with
    | nil => rfl
    | cons _ _ => cases hs
  obtain rfl : st' = [] := hS
  obtain ⟨b, hb, h⟩ := List.any_eq_true.mp h
  obtain ⟨e1, h⟩ := sx_nd h
  obtain ⟨e2, h⟩ := sx_nd h
  rw [← sx_beq e1]
  rw [← h1, ← h2] at h
  rw [← h2] at e2
  obtain ⟨sg, rf, w1, Y1, R1, m1, u1, u2, u3, u4, u5, u6, u7, u8, p1, p2, p3, p4, p5, p6, h⟩ := ab_mt_s h hY hR hM hI hL (fun j x hx => by
      rcases Nat.lt_or_ge j w0.1 with g | g
      · rw [(ab_idr_s w0.1 0 j _ x).1 g] at hx
        cases hx
        exact ⟨_, Nat.lt_of_lt_of_le (by omega) hu.1, rfl⟩
      · rw [(ab_idr_s w0.1 0 j _ x).2 g, ab_rep_n] at hx; cases hx) (fun j x hx => by
      rcases Nat.lt_or_ge j w0.2.2.1 with g | g
      · rw [(ab_idq_s w0.2.2.1 0 j _).1 g] at hx
        cases hx
        refine ⟨Nat.lt_of_lt_of_le (by omega) hu.2.2.1, fun q hq => ?_⟩
        obtain ⟨q', g1, g2⟩ := ab_rk_s e2 g hq
        rw [Nat.zero_add]
        exact ab_ts_s g2 (hR.2 j q' g1)
      · rw [(ab_idq_s w0.2.2.1 0 j _).2 g, ab_rep_n] at hx; cases hx)
  have huw : ab_up w0 (ab_wp b.2.1 sg rf w1) := by
    have f1 : ∀ j, j < w0.1 → sx_nt sg j = some (.inr (j, 1, .ofNat 0)) := fun j hj => by
      have := u5 j _ ((ab_idr_s w0.1 0 j _ (.inl 0)).1 hj)
      rw [Nat.zero_add] at this; exact this
    have f2 : ∀ j, j < w0.2.2.1 → sx_nt rf j = some j := fun j hj => by
      have := u6 j _ ((ab_idq_s w0.2.2.1 0 j _).1 hj)
      rw [Nat.zero_add] at this; exact this
    refine ⟨?_, fun j hj => ?_, ?_, fun j hj => ?_⟩
    · rcases Nat.eq_zero_or_pos w0.1 with g | g
      · rw [g]; exact Nat.zero_le _
      · have := ab_nt_lt (f1 (w0.1 - 1) (by omega))
        show w0.1 ≤ b.2.1.1.length
        omega
    · refine (ab_wp_r (z := w0.2.1 j) (f1 j hj) ⟨Nat.lt_of_lt_of_le hj (Nat.le_trans hu.1 u1.1), ?_⟩)
      rw [u1.2.1 j (Nat.lt_of_lt_of_le hj hu.1), hu.2.1 j hj]
      have : Int.ofNat 1 * w0.2.1 j = w0.2.1 j := Int.one_mul _
      show Int.ofNat 1 * w0.2.1 j + 0 = w0.2.1 j
      omega
    · rcases Nat.eq_zero_or_pos w0.2.2.1 with g | g
      · rw [g]; exact Nat.zero_le _
      · have := ab_nt_lt (f2 (w0.2.2.1 - 1) (by omega))
        show w0.2.2.1 ≤ b.2.1.2.1.length
        omega
    · rw [ab_wp_s (f2 j hj), u1.2.2.2 j (Nat.lt_of_lt_of_le hj hu.2.2.1), hu.2.2.2 j hj]
  refine hz b hb _ L' M cb sb ⟨p1, p2, p3, p4, hI, hFm, huw⟩ (fun A' e => ?_)
  subst e
  exact ab_ld_s u2 u7 (huA.tr u1) _ _ h (hA A' rfl)
end ABC
