/-! ===== a contract that is checked up to some cuts ===== -/
/-- as ab_ok_of, but where some cuts are left: what comes from there on is told by hX -/
theorem ab_seg {c : ab_co} {id : Nat} (ex : Nat → Bool) (ha : (ab_p c).2.2.2.all Option.isSome = true) (he : ab_ce c id = true) (hc : ∀ b ∈ ab_c c, (ex b.1 || ab_cc c id b) = true) (hlen : ∀ b ∈ ab_c c, ∀ b' ∈ ab_c c, b'.2.2.length = b.2.2.length) (hok : ∀ j, j < id → ab_ok (ab_tb j)) {dd : Nat} (hd : ab_h c ≤ dd) {G : mj_G} {M : mj_M} {w0 : ab_wd} {av : List mj_V} {Q : mj_P} (hY : ab_RY w0 (ab_p c).1) (hR : ab_RR w0 G (ab_p c).2.1) (hM : ab_RM w0 M (ab_mk (ab_p c).2.2.1)) (hL : ab_RL w0 (ab_p c).2.2.2 (av.map some)) (hI : ab_Inv G M) (hQ : ∀ r M', ab_Inv G M' → ab_frm (ab_w c) G M M' → (∃ po ∈ ab_o c, ab_ph w0 G po r M') → Q r G M') (hX : ∀ b ∈ ab_c c, ex b.1 = true → ∀ wb Lb Mb cb sb, ab_gam c G M w0 b wb Lb Mb → mj_W sx_ms (mj_R mj_tab dd) (ab_full (ab_y c)) Q ((ab_full (ab_y c)).drop b.1) Lb [] G Mb cb sb) : mj_R mj_tab (dd + 1) (ab_y c) av G M Q := by
  have g1 : w0.1 = (ab_p c).1.length := hY.1
  have g2 : w0.2.2.1 = (ab_p c).2.1.length := hR.1
  have hav : ab_RS w0 (ab_dv1 (ab_p c).2.2.2) av := ab_RL_RS (fun v hv e => by
    have := List.all_eq_true.mp ha v hv
    rw [e] at this; cases this) hL
  obtain ⟨e1, e2⟩ := sx_nd he
  refine ⟨by rw [← ab_wd_s hav]; exact sx_ble e1, ?_⟩
  intro Z hZ
  have hret : ∀ r M', ab_Inv G M' → ab_frm (ab_w c) G M M' → (∃ po ∈ ab_o c, ab_ph w0 G po r M') → Q r G M' := hQ
  -- the cuts, by their measures
  have cut : ∀ (b : ab_cu), b ∈ ab_c c → ∀ wb Lb Mb cb sb, ab_gam c G M w0 b wb Lb Mb → Z ((ab_full (ab_y c)).drop b.1) Lb [] G Mb cb sb := by
    intro b0 hb0
    have key : ∀ l : List Nat, l.length = b0.2.2.length → ∀ b ∈ ab_c c, ∀ wb Lb Mb cb sb, ab_mz wb b.2.2 = l → ab_gam c G M w0 b wb Lb Mb → Z ((ab_full (ab_y c)).drop b.1) Lb [] G Mb cb sb := by
      refine ab_lx_wf _ b0.2.2.length (fun l hl ih b hb wb Lb Mb cb sb hm hg => ?_)
      have hk := hc b hb
      cases hex : ex b.1 with
      | true => exact hX b hb hex wb Lb Mb cb sb hg Z hZ
      | false =>
      rw [hex, Bool.false_or] at hk
      unfold ab_cc at hk
      obtain ⟨k0, hk⟩ := sx_nd hk
      obtain ⟨k1, k2⟩ := sx_nd k0
      obtain ⟨p1, p2, p3, p4, p5, p6, p7⟩ := hg
      have hA : ∀ A', some b.2.2 = some A' → ∀ q ∈ A', ∃ z, ab_RI wb q.1 z := fun A' e q hq => by
        cases e
        have := List.all_eq_true.mp k1 q hq
        rcases q with ⟨z | ⟨i, a, d⟩, s⟩
        · exact ⟨z, rfl⟩
        · exact ⟨_, by rw [p1.1]; exact sx_blt this, rfl⟩
      have hst := ab_st_s (A := some b.2.2) (wA := wb) (M0 := M) (G := G) (ab_ex_s (c := c) (id := id) hok g1 g2 hA 8000) hok g1 g2
      refine hst _ _ _ _ _ _ _ _ _ _ _ hk wb Lb [] Mb Q Z dd cb sb hd ⟨hZ, fun _ => ⟨rfl, fun b' hb' wb' Lb' Mb' cb' sb' hg' hlt => ?_⟩⟩ rfl p4 rfl hret p1 p2 p3 (fun e he => by cases he) p5 p6 p7 ab_up.rf
      have hlen : b'.2.2.length = b0.2.2.length := by
        exact hlen b0 hb0 b' hb'
      have hlt := hlt _ rfl
      rw [hm] at hlt
      exact ih _ (by unfold ab_mz; rw [List.length_map]; exact hlen) hlt b' hb' wb' Lb' Mb' cb' sb' rfl hg'
    intro wb Lb Mb cb sb hg
    exact key _ (by unfold ab_mz; rw [List.length_map]) b0 hb0 wb Lb Mb cb sb rfl hg
  have hst := ab_st_s (A := none) (wA := w0) (M0 := M) (G := G) (ab_ex_s (c := c) (id := id) hok g1 g2 (fun A' e => by cases e) 8000) hok g1 g2
  exact hst _ _ _ _ _ _ _ _ _ _ _ e2 w0 _ [] M Q Z dd _ _ hd ⟨hZ, fun _ => ⟨rfl, fun b hb wb Lb Mb cb sb hg _ => cut b hb wb Lb Mb cb sb hg⟩⟩ rfl (ab_en_s _ hav) rfl hret hY hR hM (fun e he => by cases he) hI ab_frm.rf ab_up.rf ab_up.rf
