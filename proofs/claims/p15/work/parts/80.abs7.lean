/-! ===== one instruction of the abstract run is one of the small machine ===== -/
section ABS
variable (c : ab_co) (id : Nat) (G : mj_G) (M0 : mj_M) (w0 wA : ab_wd) (A : Option (List (ab_I × Nat)))
def ab_gam (b : ab_cu) (wb : ab_wd) (Lb : mj_L) (Mb : mj_M) : Prop := ab_RY wb b.2.1.1 ∧ ab_RR wb G b.2.1.2.1 ∧ ab_RM wb Mb (ab_mk b.2.1.2.2.1) ∧ ab_RL wb b.2.1.2.2.2 Lb ∧ ab_Inv G Mb ∧ ab_frm (ab_w c) G M0 Mb ∧ ab_up w0 wb
def ab_ih (Z : mj_S) : Prop := ∀ b ∈ ab_c c, ∀ wb Lb Mb cb sb, ab_gam c G M0 w0 b wb Lb Mb → (∀ A', A = some A' → ab_lx (ab_mz wb b.2.2) (ab_mz wA A')) → Z ((ab_full (ab_y c)).drop b.1) Lb [] G Mb cb sb
def ab_cz (fs : List ab_F) (y dd : Nat) (Q : mj_P) (Z : mj_S) : Prop := (∀ rest L st G M cb sb, mj_x sx_ms (mj_R mj_tab dd) (ab_full y) Q Z 1 rest L st G M cb sb → Z rest L st G M cb sb) ∧ (fs = [] → y = ab_y c ∧ ab_ih c G M0 w0 wA A Z)
def ab_RF (w : ab_wd) : List ab_F → mj_P → Prop
  | [], Q => ∀ r M, ab_Inv G M → ab_frm (ab_w c) G M0 M → (∃ po ∈ ab_o c, ab_ph w0 G po r M) → Q r G M
  | (y, d, i, rest, L, st) :: fs, Q => ∃ (L' : mj_L) (st' : List mj_V) (Q' : mj_P) (Z : mj_S) (dd cb sb : Nat), d ≤ dd ∧ ab_cz c G M0 w0 wA A fs y dd Q' Z ∧ rest = (ab_full y).drop i ∧ ab_RL w L L' ∧ ab_RS w st st' ∧ ab_RF w fs Q' ∧ ∀ r M, Z rest L' (mj_ret r st') G M cb sb → Q r G M
theorem ab_RF.up {c : ab_co} {G : mj_G} {M0 : mj_M} {w0 wA : ab_wd} {A : Option (List (ab_I × Nat))} {w w' : ab_wd} (u : ab_up w w') : ∀ {fs : List ab_F} {Q : mj_P}, ab_RF c G M0 w0 wA A w fs Q → ab_RF c G M0 w0 wA A w' fs Q
  | [], _, h => h
  | (_, _, _, _, _, _) :: _, _, h => by
    obtain ⟨L', st', Q', Z, dd, cb, sb, h1, h2, h3, h4, h5, h6, h7⟩ := h
    exact ⟨L', st', Q', Z, dd, cb, sb, h1, h2, h3, h4.up u, h5.up u, h6.up u, h7⟩
def ab_Sem (y d i : Nat) (rest : List mj_E) (L : ab_L) (st : List ab_V) (fs : List ab_F) (Y : ab_Y) (R : ab_R) (m : ab_m) (E : ab_E) : Prop := ∀ (w : ab_wd) (L' : mj_L) (st' : List mj_V) (M : mj_M) (Q : mj_P) (Z : mj_S) (dd cb sb : Nat), d ≤ dd → ab_cz c G M0 w0 wA A fs y dd Q Z → rest = (ab_full y).drop i → ab_RL w L L' → ab_RS w st st' → ab_RF c G M0 w0 wA A w fs Q → ab_RY w Y → ab_RR w G R → ab_RM w M m → ab_RE w E → ab_Inv G M → ab_frm (ab_w c) G M0 M → ab_up w0 w → ab_up wA w → Z rest L' st' G M cb sb
def ab_ks (K : ab_K) : Prop := ∀ y d i rest L st fs Y R m E, K y d i rest L st fs Y R m E = true → ab_Sem c G M0 w0 wA A y d i rest L st fs Y R m E
end ABS
theorem ab_RS.c {w : ab_wd} {x : ab_V} {v : mj_V} {t : List ab_V} {t' : List mj_V} (hS : ab_RS w t t') (hv : ab_RV w x v) : ab_RS w (x :: t) (v :: t') := ⟨v, t', rfl, hv, hS⟩
theorem ab_RI.v {w : ab_wd} {x : ab_I} {z : Int} (h : ab_RI w x z) : ab_RV w (.inl x) (.inl z) := ⟨z, rfl, h⟩
theorem ab_RV.l {w : ab_wd} {x : Int64} : ab_RV w (.inr (.inl ())) (.inr (.inl x)) := ⟨x, rfl⟩
theorem ab_i1_s {st : List ab_V} {k : ab_I → List ab_V → Bool} {w : ab_wd} {st' : List mj_V} (h : ab_i1 st k = true) (hS : ab_RS w st st') : ∃ x t z t', st' = .inl z :: t' ∧ ab_RI w x z ∧ ab_RS w t t' ∧ k x t = true := by
  unfold ab_i1 at h
  split at h
  · obtain ⟨v, t', rfl, ⟨z, rfl, hz⟩, h3⟩ := hS
    exact ⟨_, _, z, t', rfl, hz, h3, h⟩
  · cases h
theorem ab_l1_s {st : List ab_V} {k : List ab_V → Bool} {w : ab_wd} {st' : List mj_V} (h : ab_l1 st k = true) (hS : ab_RS w st st') : ∃ t z t', st' = .inr (.inl z) :: t' ∧ ab_RS w t t' ∧ k t = true := by
  unfold ab_l1 at h
  split at h
  · obtain ⟨v, t', rfl, ⟨z, rfl⟩, h3⟩ := hS
    exact ⟨_, z, t', rfl, h3, h⟩
  · cases h
theorem ab_r1_s {st : List ab_V} {k : Nat → List ab_V → Bool} {w : ab_wd} {st' : List mj_V} (h : ab_r1 st k = true) (hS : ab_RS w st st') : ∃ r t t', st' = .inr (.inr (w.2.2.2 r)) :: t' ∧ r < w.2.2.1 ∧ ab_RS w t t' ∧ k r t = true := by
  unfold ab_r1 at h
  split at h
  · obtain ⟨v, t', rfl, ⟨h1, rfl⟩, h3⟩ := hS
    exact ⟨_, _, t', rfl, h1, h3, h⟩
  · cases h
theorem ab_v1_s {st : List ab_V} {k : ab_V → List ab_V → Bool} {w : ab_wd} {st' : List mj_V} (h : ab_v1 st k = true) (hS : ab_RS w st st') : ∃ x t v t', st' = v :: t' ∧ (∀ k' : mj_V → List mj_V → Prop, k' v t' → mj_c1 (v :: t') k') ∧ ab_RV w x v ∧ ab_RS w t t' ∧ k x t = true := by
  unfold ab_v1 at h
  split at h
  · rename_i x t
    obtain ⟨v, t', rfl, ⟨z, rfl, hz⟩, h3⟩ := hS
    exact ⟨.inl x, t, _, t', rfl, fun k' q => q, ⟨z, rfl, hz⟩, h3, h⟩
  · rename_i x t
    obtain ⟨v, t', rfl, ⟨h1, rfl⟩, h3⟩ := hS
    exact ⟨.inr (.inr x), t, _, t', rfl, fun k' q => q, ⟨h1, rfl⟩, h3, h⟩
  · cases h
theorem ab_nt_RL {w : ab_wd} : ∀ {L : ab_L} {L' : mj_L} {i : Nat} {x : ab_V}, ab_RL w L L' → sx_nt L i = some x → ∃ v, mj_nt L' i = some v ∧ ab_RV w x v
  | [], _, _, _, _, h => by cases h
  | none :: _, _, 0, _, _, h => by cases h
  | some y :: _, _, 0, _, hL, h => by
    obtain ⟨v, t, rfl, h1, h2⟩ := hL
    cases h
    exact ⟨v, rfl, h1⟩
  | none :: _, _, i + 1, _, hL, h => by
    obtain ⟨v, t, rfl, h2⟩ := hL
    exact ab_nt_RL (i := i) h2 h
  | some y :: _, _, i + 1, _, hL, h => by
    obtain ⟨v, t, rfl, h1, h2⟩ := hL
    exact ab_nt_RL (i := i) h2 h
theorem ab_ldi_s {L : ab_L} {i : Nat} {k : ab_I → Bool} {w : ab_wd} {L' : mj_L} (h : ab_ldi L i k = true) (hL : ab_RL w L L') : ∃ x z, mj_nt L' i = some (.inl z) ∧ ab_RI w x z ∧ k x = true := by
  unfold ab_ldi at h
  split at h
  · rename_i x hx
    obtain ⟨v, h1, z, rfl, h2⟩ := ab_nt_RL hL hx
    exact ⟨x, z, h1, h2, h⟩
  · cases h
theorem ab_ldl_s {L : ab_L} {i : Nat} {k : Bool} {w : ab_wd} {L' : mj_L} (h : ab_ldl L i k = true) (hL : ab_RL w L L') : ∃ z, mj_nt L' i = some (.inr (.inl z)) ∧ k = true := by
  unfold ab_ldl at h
  split at h
  · rename_i x hx
    obtain ⟨v, h1, z, rfl⟩ := ab_nt_RL hL hx
    exact ⟨z, h1, h⟩
  · cases h
theorem ab_lda_s {L : ab_L} {i : Nat} {k : Nat → Bool} {w : ab_wd} {L' : mj_L} (h : ab_lda L i k = true) (hL : ab_RL w L L') : ∃ r, mj_nt L' i = some (.inr (.inr (w.2.2.2 r))) ∧ r < w.2.2.1 ∧ k r = true := by
  unfold ab_lda at h
  split at h
  · rename_i x hx
    obtain ⟨v, h1, h2, rfl⟩ := ab_nt_RL hL hx
    exact ⟨x, h1, h2, h⟩
  · cases h
theorem ab_set_RL {w : ab_wd} {x : Option ab_V} {v : Option mj_V} (hx : ∀ y, x = some y → ∃ u, v = some u ∧ ab_RV w y u) : ∀ {L : ab_L} {L' : mj_L} (i : Nat), ab_RL w L L' → ab_RL w (L.set i x) (L'.set i v)
  | [], _, i, h => by
    have e : _ = [] := h
    rw [e]; rfl
  | none :: t, _, 0, h => by
    obtain ⟨u, t', rfl, h2⟩ := h
    cases x with
    | none => exact ⟨v, t', rfl, h2⟩
    | some y =>
      obtain ⟨u', rfl, hu⟩ := hx y rfl
      exact ⟨u', t', rfl, hu, h2⟩
  | some y0 :: t, _, 0, h => by
    obtain ⟨u, t', rfl, h1, h2⟩ := h
    cases x with
    | none => exact ⟨v, t', rfl, h2⟩
    | some y =>
      obtain ⟨u', rfl, hu⟩ := hx y rfl
      exact ⟨u', t', rfl, hu, h2⟩
  | none :: t, _, i + 1, h => by
    obtain ⟨u, t', rfl, h2⟩ := h
    exact ⟨u, _, rfl, ab_set_RL hx i h2⟩
  | some y0 :: t, _, i + 1, h => by
    obtain ⟨u, t', rfl, h1, h2⟩ := h
    exact ⟨u, _, rfl, h1, ab_set_RL hx i h2⟩
/-- what is spoilt in the machine need not be known in the run -/
theorem ab_weak_RL {w : ab_wd} : ∀ {L : ab_L} {L' : mj_L} (j : Nat), ab_RL w L L' → (∀ y, sx_nt L j = some y → False) → ab_RL w L (L'.set j none)
  | [], _, j, h, _ => by
    have e : _ = [] := h
    rw [e]; rfl
  | none :: t, _, 0, h, _ => by
    obtain ⟨u, t', rfl, h2⟩ := h
    exact ⟨none, t', rfl, h2⟩
  | some y0 :: t, _, 0, h, hn => (hn y0 rfl).elim
  | none :: t, _, j + 1, h, hn => by
    obtain ⟨u, t', rfl, h2⟩ := h
    exact ⟨u, _, rfl, ab_weak_RL j h2 hn⟩
  | some y0 :: t, _, j + 1, h, hn => by
    obtain ⟨u, t', rfl, h1, h2⟩ := h
    exact ⟨u, _, rfl, h1, ab_weak_RL j h2 hn⟩
theorem ab_kll_s {w : ab_wd} {L : ab_L} {L' : mj_L} (hL : ab_RL w L L') (i : Nat) : ab_RL w (ab_kll L i) (mj_kl L' i) := by
  cases i with
  | zero => exact hL
  | succ j =>
    unfold ab_kll mj_kl
    dsimp only
    cases hq : sx_nt L j with
    | some x =>
      obtain ⟨v, h1, h2⟩ := ab_nt_RL hL hq
      rw [h1]
      rcases x with x | x | x
      · obtain ⟨z, rfl, -⟩ := h2; exact hL
      · obtain ⟨z, rfl⟩ := h2; exact ab_set_RL (fun y e => by cases e) j hL
      · obtain ⟨-, rfl⟩ := h2; exact hL
    | none =>
      dsimp only
      have hn : ∀ y, sx_nt L j = some y → False := fun y e => by rw [hq] at e; cases e
      split
      · exact ab_weak_RL j hL hn
      · exact hL
theorem ab_s1_s {w : ab_wd} {L : ab_L} {L' : mj_L} {i : Nat} {x : ab_V} {v : mj_V} (hL : ab_RL w L L') (hv : ab_RV w x v) : ab_RL w (ab_s1 L i x) (mj_s1 L' i v) := ab_set_RL (fun y e => by cases e; exact ⟨v, rfl, hv⟩) i (ab_kll_s hL i)
theorem ab_s2_s {w : ab_wd} {L : ab_L} {L' : mj_L} {i : Nat} {x : ab_V} {v : mj_V} (hL : ab_RL w L L') (hv : ab_RV w x v) : ab_RL w (ab_s2 L i x) (mj_s2 L' i v) := ab_set_RL (fun y e => by cases e) (i + 1) (ab_s1_s hL hv)
theorem ab_cat_s {w : ab_wd} : ∀ {st : List ab_V} {st' : List mj_V}, ab_RS w st st' → ab_cat st = mj_cat st'
  | [], _, h => by
    have e : _ = [] := h
    rw [e]; rfl
  | x :: t, _, h => by
    obtain ⟨v, t', rfl, h1, h2⟩ := h
    have ih := ab_cat_s h2
    rcases x with x | x | x
    · obtain ⟨z, rfl, -⟩ := h1; show 1 + ab_cat t = 1 + mj_cat t'; rw [ih]
    · obtain ⟨z, rfl⟩ := h1; show 2 + ab_cat t = 2 + mj_cat t'; rw [ih]
    · obtain ⟨-, rfl⟩ := h1; show 1 + ab_cat t = 1 + mj_cat t'; rw [ih]
theorem ab_wd_s {w : ab_wd} : ∀ {st : List ab_V} {st' : List mj_V}, ab_RS w st st' → ab_cat st = mj_wd st'
  | [], _, h => by
    have e : _ = [] := h
    rw [e]; rfl
  | x :: t, _, h => by
    obtain ⟨v, t', rfl, h1, h2⟩ := h
    have ih := ab_wd_s h2
    rcases x with x | x | x
    · obtain ⟨z, rfl, -⟩ := h1; show 1 + ab_cat t = 1 + mj_wd t'; rw [ih]
    · obtain ⟨z, rfl⟩ := h1; show 2 + ab_cat t = 2 + mj_wd t'; rw [ih]
    · obtain ⟨-, rfl⟩ := h1; show 1 + ab_cat t = 1 + mj_wd t'; rw [ih]
theorem ab_rep_s {w : ab_wd} : ∀ n : Nat, ab_RL w (List.replicate n none) (List.replicate n none)
  | 0 => rfl
  | n + 1 => ⟨none, _, rfl, ab_rep_s n⟩
theorem ab_en_s {w : ab_wd} : ∀ {st : List ab_V} {st' : List mj_V} (n : Nat), ab_RS w st st' → ab_RL w (ab_en st n) (mj_en st' n)
  | [], _, n, h => by
    have e : _ = [] := h
    rw [e]; exact ab_rep_s n
  | x :: t, _, n, h => by
    obtain ⟨v, t', rfl, h1, h2⟩ := h
    rcases x with x | x | x
    · obtain ⟨z, rfl, hz⟩ := h1; exact ⟨_, _, rfl, ⟨z, rfl, hz⟩, ab_en_s (n - 1) h2⟩
    · obtain ⟨z, rfl⟩ := h1; exact ⟨_, _, rfl, ⟨z, rfl⟩, none, _, rfl, ab_en_s (n - 2) h2⟩
    · obtain ⟨hz, rfl⟩ := h1; exact ⟨_, _, rfl, ⟨hz, rfl⟩, ab_en_s (n - 1) h2⟩
theorem ab_RS_RL {w : ab_wd} : ∀ {st : List ab_V} {st' : List mj_V}, ab_RS w st st' → ab_RL w (st.map some) (st'.map some)
  | [], _, h => by
    have e : _ = [] := h
    rw [e]; rfl
  | x :: t, _, h => by
    obtain ⟨v, t', rfl, h1, h2⟩ := h
    exact ⟨v, _, rfl, h1, ab_RS_RL h2⟩
theorem ab_pop_s {w : ab_wd} : ∀ (n : Nat) (acc st : List ab_V) (acc' st' : List mj_V) (k : List ab_V → List ab_V → Bool) (k' : List mj_V → List mj_V → Prop), ab_pop n acc st k = true → ab_RS w acc acc' → ab_RS w st st' → (∀ As t As' t', k As t = true → ab_RS w As As' → ab_RS w t t' → k' As' t') → mj_pop n acc' st' k'
  | 0, acc, st, acc', st', k, k', h, h1, h2, kk => kk _ _ _ _ h h1 h2
  | n + 1, acc, [], acc', st', k, k', h, h1, h2, kk => by cases h
  | n + 1, acc, v :: st, acc', st', k, k', h, h1, h2, kk => by
    obtain ⟨v', t', rfl, g1, g2⟩ := h2
    exact ab_pop_s n (v :: acc) st (v' :: acc') t' k k' h ⟨v', acc', rfl, g1, h1⟩ g2 kk

