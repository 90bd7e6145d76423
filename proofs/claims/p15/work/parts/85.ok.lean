/-! ===== a contract whose runs are checked holds ===== -/
theorem ab_sp_s {c : ab_co} {id : Nat} {G : mj_G} {M0 : mj_M} {w0 wA : ab_wd} {A : Option (List (ab_I × Nat))} {K : ab_K} (hK : ab_ks c G M0 w0 wA A K) (g1 : w0.1 = (ab_p c).1.length) (g2 : w0.2.2.1 = (ab_p c).2.1.length) (hA : ∀ A', A = some A' → ∀ q ∈ A', ∃ z, ab_RI wA q.1 z) : ab_ks c G M0 w0 wA A (ab_sp c A K) := by
  intro y d i rest L st fs Y R m E hk w L' st' M Q Z dd cb sb hd hz hi hL hS hF hY hR hM hE hI hFm hu huA
  cases fs with
  | nil =>
    unfold ab_sp at hk
    dsimp only at hk
    cases hc : (ab_c c).any (fun b => Nat.beq b.1 i) with
    | true =>
      rw [hc] at hk
      obtain ⟨e1, e2⟩ := hz.2 rfl
      rw [hi, e1]
      exact ab_arr_s hk g1 g2 hA e2 hL hS hY hR hM hI hFm hu huA
    | false =>
      rw [hc] at hk
      exact hK _ _ _ _ _ _ _ _ _ _ _ hk w L' st' M Q Z dd cb sb hd hz hi hL hS hF hY hR hM hE hI hFm hu huA
  | cons f fs => exact hK _ _ _ _ _ _ _ _ _ _ _ hk w L' st' M Q Z dd cb sb hd hz hi hL hS hF hY hR hM hE hI hFm hu huA
theorem ab_ex_s {c : ab_co} {id : Nat} {G : mj_G} {M0 : mj_M} {w0 wA : ab_wd} {A : Option (List (ab_I × Nat))} (hok : ∀ j, j < id → ab_ok (ab_tb j)) (g1 : w0.1 = (ab_p c).1.length) (g2 : w0.2.2.1 = (ab_p c).2.1.length) (hA : ∀ A', A = some A' → ∀ q ∈ A', ∃ z, ab_RI wA q.1 z) : ∀ n, ab_ks c G M0 w0 wA A (ab_ex c id A n)
  | 0 => fun _ _ _ _ _ _ _ _ _ _ _ h => by cases h
  | n + 1 => ab_sp_s (id := id) (ab_st_s (ab_ex_s hok g1 g2 hA n) hok g1 g2) g1 g2 hA
theorem ab_RL_RS {w : ab_wd} : ∀ {L : ab_L} {av : List mj_V}, (∀ v ∈ L, v ≠ none) → ab_RL w L (av.map some) → ab_RS w (ab_dv1 L) av
  | [], [], _, _ => rfl
  | [], _ :: _, _, h => by cases h
  | none :: _, _, hn, _ => absurd rfl (hn none List.mem_cons_self)
  | some x :: t, [], _, h => by obtain ⟨v, L', e, -⟩ := h; cases e
  | some x :: t, v :: av, hn, h => by
    obtain ⟨v', L', e, h1, h2⟩ := h
    cases e
    exact ⟨v, av, rfl, h1, ab_RL_RS (fun v hv => hn v (List.mem_cons_of_mem _ hv)) h2⟩
/-- all of a contract's checks -/
def ab_ckd (c : ab_co) (id : Nat) : Prop := (ab_p c).2.2.2.all Option.isSome = true ∧ ab_ce c id = true ∧ ∀ b ∈ ab_c c, ab_cc c id b = true
theorem ab_ok_of {c : ab_co} {id : Nat} (h : ab_ckd c id) (hok : ∀ j, j < id → ab_ok (ab_tb j)) : ab_ok c := by
  obtain ⟨ha, he, hc⟩ := h
  intro dd hd G M w0 av Q hY hR hM hL hI hQ
  have g1 : w0.1 = (ab_p c).1.length := hY.1
  have g2 : w0.2.2.1 = (ab_p c).2.1.length := hR.1
  have hav : ab_RS w0 (ab_dv1 (ab_p c).2.2.2) av := ab_RL_RS (fun v hv e => by
    have := List.all_eq_true.mp ha v hv
    rw [e] at this; cases this) hL
  obtain ⟨e1, e2⟩ := sx_nd he
  refine ⟨by rw [← ab_wd_s hav]; exact sx_ble e1, ?_⟩
  intro Z hZ
  have hret : ∀ r M', ab_Inv G M' → ab_frm (ab_w c) G M M' → (∃ po ∈ ab_o c, ab_ph w0 G po r M') → Q r G M' := hQ
  -- the cuts, by their measures
  have cut : ∀ (b : ab_cu), b ∈ ab_c c → ∀ wb Lb Mb cb sb, ab_gam c G M w0 b wb Lb Mb → Z ((ab_full (ab_y c)).drop b.1) Lb [] G Mb cb sb := by
    intro b0 hb0
    have key : ∀ l : List Nat, l.length = b0.2.2.length → ∀ b ∈ ab_c c, ∀ wb Lb Mb cb sb, ab_mz wb b.2.2 = l → ab_gam c G M w0 b wb Lb Mb → Z ((ab_full (ab_y c)).drop b.1) Lb [] G Mb cb sb := by
      refine ab_lx_wf _ b0.2.2.length (fun l hl ih b hb wb Lb Mb cb sb hm hg => ?_)
      have hk := hc b hb
      unfold ab_cc at hk
      obtain ⟨k0, hk⟩ := sx_nd hk
      obtain ⟨k1, k2⟩ := sx_nd k0
      obtain ⟨p1, p2, p3, p4, p5, p6, p7⟩ := hg
      have hA : ∀ A', some b.2.2 = some A' → ∀ q ∈ A', ∃ z, ab_RI wb q.1 z := fun A' e q hq => by
        cases e
        have := List.all_eq_true.mp k1 q hq
        rcases q with ⟨z | ⟨i, a, d⟩, s⟩
        · exact ⟨z, rfl⟩
        · exact ⟨_, by rw [p1.1]; exact sx_blt this, rfl⟩
      have hst := ab_st_s (A := some b.2.2) (wA := wb) (M0 := M) (G := G) (ab_ex_s (c := c) (id := id) hok g1 g2 hA 8000) hok g1 g2
      refine hst _ _ _ _ _ _ _ _ _ _ _ hk wb Lb [] Mb Q Z dd cb sb hd ⟨hZ, fun _ => ⟨rfl, fun b' hb' wb' Lb' Mb' cb' sb' hg' hlt => ?_⟩⟩ rfl p4 rfl hret p1 p2 p3 (fun e he => by cases he) p5 p6 p7 ab_up.rf
      have hlen : b'.2.2.length = b0.2.2.length := by
        have q1 := sx_beq (List.all_eq_true.mp k2 b' hb')
        have q2 := sx_beq (List.all_eq_true.mp k2 b0 hb0)
        omega
      have hlt := hlt _ rfl
      rw [hm] at hlt
      exact ih _ (by unfold ab_mz; rw [List.length_map]; exact hlen) hlt b' hb' wb' Lb' Mb' cb' sb' rfl hg'
    intro wb Lb Mb cb sb hg
    exact key _ (by unfold ab_mz; rw [List.length_map]) b0 hb0 wb Lb Mb cb sb rfl hg
  have hst := ab_st_s (A := none) (wA := w0) (M0 := M) (G := G) (ab_ex_s (c := c) (id := id) hok g1 g2 (fun A' e => by cases e) 8000) hok g1 g2
  exact hst _ _ _ _ _ _ _ _ _ _ _ e2 w0 _ [] M Q Z dd _ _ hd ⟨hZ, fun _ => ⟨rfl, fun b hb wb Lb Mb cb sb hg _ => cut b hb wb Lb Mb cb sb hg⟩⟩ rfl (ab_en_s _ hav) rfl hret hY hR hM (fun e he => by cases he) hI ab_frm.rf ab_up.rf ab_up.rf
