/-! ===== feed: what comes into the tapes (laid by a program) ===== -/
def rv_fd (f : Nat → Int) (n : Nat) (v : Int) : Nat → Int := fun k => if n ≤ k ∧ k < n + 4 then rv_b7 v (k - n) else f k
theorem rv_fd_of {f g : Nat → Int} {n : Nat} {v : Int} (h1 : ∀ j, j < 4 → g (n + j) = rv_b7 v j) (h2 : ∀ k, ¬ (n ≤ k ∧ k < n + 4) → g k = f k) : g = rv_fd f n v := funext fun k => by
  unfold rv_fd
  by_cases c : n ≤ k ∧ k < n + 4
  · rw [if_pos c, ← h1 (k - n) (by omega), show n + (k - n) = k by omega]
  · rw [if_neg c]; exact h2 k c
def rv_f5 (f : Nat → Int) (n : Nat) (a b c d e : Int) : Nat → Int := rv_fd (rv_fd (rv_fd (rv_fd (rv_fd f n a) (n + 4) b) (n + 8) c) (n + 12) d) (n + 16) e
theorem r_X11_feed2 {d x tp bc : Nat} {n : Nat} {a1 a2 a3 a4 a5 : Int} {G : mj_G} {M : mj_M} {Q : mj_P} (gx : G x = (1011, 0)) (go : G tp = (1008, 0)) (gb : G bc = (38101, 940)) (fx : M.2.2 x 0 = some tp) (fa : M.2.2 tp 0 = some bc) (fn : M.1 tp 1 = (n : Int)) (hn : n ≤ 940) (h1 : n ≤ 920 → ∀ z M', M'.1 bc = rv_f5 (M.1 bc) n a1 a2 a3 a4 a5 → Q (some (.inl z)) G M') (h0 : 920 < n → ∀ z M', M'.1 bc = M.1 bc → Q (some (.inl z)) G M') : mj_R mj_tab (d + 2) 124 [.inr (.inr (some x)), .inl a1, .inl a2, .inl a3, .inl a4, .inl a5] G M Q := by
  have ne : bc ≠ tp := hn_ne gb go (by decide)
  refine ⟨Nat.le_of_ble_eq_true rfl, ?_⟩
  show wz (d + 1) mt_X11_feed.2.2.2.2.1 Q mt_X11_feed.2.2.2.2.1 [some (.inr (.inr (some x))), some (.inl a1), some (.inl a2), some (.inl a3), some (.inl a4), some (.inl a5)] [] G M _ _
  refine w_aln rfl ?_
  refine w_gr gx rfl (by decide) rfl (fx) ?_
  refine w_cv (st := []) rfl go rfl (Nat.le_of_ble_eq_true rfl) (fun kk h => h) ⟨Nat.le_of_ble_eq_true rfl, ?_⟩
  show wz (d) mt_X7_hasRoom.2.2.2.2.1 _ mt_X7_hasRoom.2.2.2.2.1 [some (.inr (.inr (some tp)))] [] _ _ _ _
  refine w_aln rfl ?_
  refine w_gi go rfl (by decide) rfl (fn) ?_
  refine w_bp ?_
  refine w_add ⟨by show (-2147483648 : Int) ≤ ((n : Nat) : Int) + 20; omega, by show ((n : Nat) : Int) + 20 < (2147483648 : Int); omega⟩ ?_
  refine w_sp ?_
  refine w_cmgt (fun c1 => ?_) (fun c1 => ?_)
  · skip
    refine w_ic ?_
    refine w_iret (fun _ => Or.inl rfl) ?_
    refine w_ifne (fun c2 => ?_) (fun c2 => ?_)
    · exfalso; omega
    · skip
      refine w_ic ?_
      exact w_iret (fun q => by cases q) (h0 (by omega) _ _ rfl)
  · skip
    refine w_ic ?_
    refine w_goto ?_
    refine w_iret (fun _ => Or.inr rfl) ?_
    refine w_ifne (fun c3 => ?_) (fun c3 => ?_)
    · skip
      refine w_aln rfl ?_
      refine w_gr gx rfl (by decide) rfl (fx) ?_
      refine w_iln rfl ?_
      refine w_cv (st := []) rfl go rfl (Nat.le_of_ble_eq_true rfl) (fun kk h => h) (r_X7_put (d := d) go gb fa fn (by omega) (by omega) (fun M1 e1 b1 b2 e2 => ?_))
      have n_1 : M1.1 tp 1 = ((n + 4 : Nat) : Int) := e1.trans (by omega)
      have tn : (((n : Nat) : Int)).toNat = n := by omega
      rw [tn] at b1 b2
      have f_1 : M1.1 bc = rv_fd (M.1 bc) n a1 := rv_fd_of (fun j hj => b1 j hj) (fun k hk => (b2 bc k (fun e => ne e.1) (fun e => hk e.2)))
      have e2_1 : M1.2 = M.2 := e2
      clear b1 b2 e1 e2 tn
      refine w_aln rfl ?_
      refine w_gr gx rfl (by decide) rfl ((congrFun (congrFun (congrArg Prod.snd e2_1) x) 0).trans fx) ?_
      refine w_iln rfl ?_
      refine w_cv (st := []) rfl go rfl (Nat.le_of_ble_eq_true rfl) (fun kk h => h) (r_X7_put (d := d) go gb ((congrFun (congrFun (congrArg Prod.snd e2_1) tp) 0).trans fa) n_1 (by omega) (by omega) (fun M2 e1 b1 b2 e2 => ?_))
      have n_2 : M2.1 tp 1 = ((n + 8 : Nat) : Int) := e1.trans (by omega)
      have tn : (((n + 4 : Nat) : Int)).toNat = n + 4 := by omega
      rw [tn] at b1 b2
      have f_2 : M2.1 bc = rv_fd (M1.1 bc) (n + 4) a2 := rv_fd_of (fun j hj => b1 j hj) (fun k hk => (b2 bc k (fun e => ne e.1) (fun e => hk e.2)))
      rw [f_1] at f_2
      have e2_2 : M2.2 = M.2 := e2.trans e2_1
      clear b1 b2 e1 e2 tn
      refine w_aln rfl ?_
      refine w_gr gx rfl (by decide) rfl ((congrFun (congrFun (congrArg Prod.snd e2_2) x) 0).trans fx) ?_
      refine w_iln rfl ?_
      refine w_cv (st := []) rfl go rfl (Nat.le_of_ble_eq_true rfl) (fun kk h => h) (r_X7_put (d := d) go gb ((congrFun (congrFun (congrArg Prod.snd e2_2) tp) 0).trans fa) n_2 (by omega) (by omega) (fun M3 e1 b1 b2 e2 => ?_))
      have n_3 : M3.1 tp 1 = ((n + 12 : Nat) : Int) := e1.trans (by omega)
      have tn : (((n + 8 : Nat) : Int)).toNat = n + 8 := by omega
      rw [tn] at b1 b2
      have f_3 : M3.1 bc = rv_fd (M2.1 bc) (n + 8) a3 := rv_fd_of (fun j hj => b1 j hj) (fun k hk => (b2 bc k (fun e => ne e.1) (fun e => hk e.2)))
      rw [f_2] at f_3
      have e2_3 : M3.2 = M.2 := e2.trans e2_2
      clear b1 b2 e1 e2 tn
      refine w_aln rfl ?_
      refine w_gr gx rfl (by decide) rfl ((congrFun (congrFun (congrArg Prod.snd e2_3) x) 0).trans fx) ?_
      refine w_il rfl ?_
      refine w_cv (st := []) rfl go rfl (Nat.le_of_ble_eq_true rfl) (fun kk h => h) (r_X7_put (d := d) go gb ((congrFun (congrFun (congrArg Prod.snd e2_3) tp) 0).trans fa) n_3 (by omega) (by omega) (fun M4 e1 b1 b2 e2 => ?_))
      have n_4 : M4.1 tp 1 = ((n + 16 : Nat) : Int) := e1.trans (by omega)
      have tn : (((n + 12 : Nat) : Int)).toNat = n + 12 := by omega
      rw [tn] at b1 b2
      have f_4 : M4.1 bc = rv_fd (M3.1 bc) (n + 12) a4 := rv_fd_of (fun j hj => b1 j hj) (fun k hk => (b2 bc k (fun e => ne e.1) (fun e => hk e.2)))
      rw [f_3] at f_4
      have e2_4 : M4.2 = M.2 := e2.trans e2_3
      clear b1 b2 e1 e2 tn
      refine w_aln rfl ?_
      refine w_gr gx rfl (by decide) rfl ((congrFun (congrFun (congrArg Prod.snd e2_4) x) 0).trans fx) ?_
      refine w_il rfl ?_
      refine w_cv (st := []) rfl go rfl (Nat.le_of_ble_eq_true rfl) (fun kk h => h) (r_X7_put (d := d) go gb ((congrFun (congrFun (congrArg Prod.snd e2_4) tp) 0).trans fa) n_4 (by omega) (by omega) (fun M5 e1 b1 b2 e2 => ?_))
      have n_5 : M5.1 tp 1 = ((n + 20 : Nat) : Int) := e1.trans (by omega)
      have tn : (((n + 16 : Nat) : Int)).toNat = n + 16 := by omega
      rw [tn] at b1 b2
      have f_5 : M5.1 bc = rv_fd (M4.1 bc) (n + 16) a5 := rv_fd_of (fun j hj => b1 j hj) (fun k hk => (b2 bc k (fun e => ne e.1) (fun e => hk e.2)))
      rw [f_4] at f_5
      have e2_5 : M5.2 = M.2 := e2.trans e2_4
      clear b1 b2 e1 e2 tn
      refine w_aln rfl ?_
      refine w_gr gx rfl (by decide) rfl ((congrFun (congrFun (congrArg Prod.snd e2_5) x) 0).trans fx) ?_
      refine w_gi go rfl (by decide) rfl (n_5) ?_
      exact w_iret (fun q => by cases q) (h1 (by omega) _ _ f_5)
    · exfalso; omega
theorem r_X12_feed2 {d m bt : Nat} {n : Nat} {a1 a2 a3 a4 a5 : Int} {G : mj_G} {M : mj_M} {Q : mj_P} (go : G m = (1012, 0)) (gb : G bt = (50101, 940)) (fa : M.2.2 m 1 = some bt) (fn : M.1 m 2 = (n : Int)) (hn : n ≤ 940) (h1 : n ≤ 920 → ∀ z M', M'.1 bt = rv_f5 (M.1 bt) n a1 a2 a3 a4 a5 → Q (some (.inl z)) G M') (h0 : 920 < n → ∀ z M', M'.1 bt = M.1 bt → Q (some (.inl z)) G M') : mj_R mj_tab (d + 2) 187 [.inr (.inr (some m)), .inl a1, .inl a2, .inl a3, .inl a4, .inl a5] G M Q := by
  have ne : bt ≠ m := hn_ne gb go (by decide)
  refine ⟨Nat.le_of_ble_eq_true rfl, ?_⟩
  show wz (d + 1) mt_X12_feed.2.2.2.2.1 Q mt_X12_feed.2.2.2.2.1 [some (.inr (.inr (some m))), some (.inl a1), some (.inl a2), some (.inl a3), some (.inl a4), some (.inl a5)] [] G M _ _
  refine w_aln rfl ?_
  refine w_ic ?_
  refine w_pi go rfl (by decide) rfl (fun q => by cases q) ?_
  refine w_aln rfl ?_
  refine w_gi go rfl (by decide) rfl ((hn_n (Or.inr (by decide))).trans fn) ?_
  refine w_bp ?_
  refine w_add ⟨by show (-2147483648 : Int) ≤ ((n : Nat) : Int) + 20; omega, by show ((n : Nat) : Int) + 20 < (2147483648 : Int); omega⟩ ?_
  refine w_sp ?_
  refine w_cmle (fun c1 => ?_) (fun c1 => ?_)
  · skip
    refine w_aln rfl ?_
    refine w_iln rfl ?_
    refine w_cv (st := []) rfl go rfl (Nat.le_of_ble_eq_true rfl) (fun kk h => h) (r_X12_four (d := d) go gb fa ((hn_n (Or.inr (by decide))).trans fn) (by omega) (by omega) (fun M1 e1 b1 b2 e2 => ?_))
    have n_1 : M1.1 m 2 = ((n + 4 : Nat) : Int) := e1.trans (by omega)
    have tn : (((n : Nat) : Int)).toNat = n := by omega
    rw [tn] at b1 b2
    have f_1 : M1.1 bt = rv_fd (M.1 bt) n a1 := rv_fd_of (fun j hj => (b1 j hj).trans (rv_b712 _ j hj).symm) (fun k hk => ((b2 bt k (fun e => ne e.1) (fun e => hk e.2)).trans (hn_n (Or.inl ne))))
    have e2_1 : M1.2 = M.2 := e2
    clear b1 b2 e1 e2 tn
    refine w_aln rfl ?_
    refine w_iln rfl ?_
    refine w_cv (st := []) rfl go rfl (Nat.le_of_ble_eq_true rfl) (fun kk h => h) (r_X12_four (d := d) go gb ((congrFun (congrFun (congrArg Prod.snd e2_1) m) 1).trans fa) n_1 (by omega) (by omega) (fun M2 e1 b1 b2 e2 => ?_))
    have n_2 : M2.1 m 2 = ((n + 8 : Nat) : Int) := e1.trans (by omega)
    have tn : (((n + 4 : Nat) : Int)).toNat = n + 4 := by omega
    rw [tn] at b1 b2
    have f_2 : M2.1 bt = rv_fd (M1.1 bt) (n + 4) a2 := rv_fd_of (fun j hj => (b1 j hj).trans (rv_b712 _ j hj).symm) (fun k hk => (b2 bt k (fun e => ne e.1) (fun e => hk e.2)))
    rw [f_1] at f_2
    have e2_2 : M2.2 = M.2 := e2.trans e2_1
    clear b1 b2 e1 e2 tn
    refine w_aln rfl ?_
    refine w_iln rfl ?_
    refine w_cv (st := []) rfl go rfl (Nat.le_of_ble_eq_true rfl) (fun kk h => h) (r_X12_four (d := d) go gb ((congrFun (congrFun (congrArg Prod.snd e2_2) m) 1).trans fa) n_2 (by omega) (by omega) (fun M3 e1 b1 b2 e2 => ?_))
    have n_3 : M3.1 m 2 = ((n + 12 : Nat) : Int) := e1.trans (by omega)
    have tn : (((n + 8 : Nat) : Int)).toNat = n + 8 := by omega
    rw [tn] at b1 b2
    have f_3 : M3.1 bt = rv_fd (M2.1 bt) (n + 8) a3 := rv_fd_of (fun j hj => (b1 j hj).trans (rv_b712 _ j hj).symm) (fun k hk => (b2 bt k (fun e => ne e.1) (fun e => hk e.2)))
    rw [f_2] at f_3
    have e2_3 : M3.2 = M.2 := e2.trans e2_2
    clear b1 b2 e1 e2 tn
    refine w_aln rfl ?_
    refine w_il rfl ?_
    refine w_cv (st := []) rfl go rfl (Nat.le_of_ble_eq_true rfl) (fun kk h => h) (r_X12_four (d := d) go gb ((congrFun (congrFun (congrArg Prod.snd e2_3) m) 1).trans fa) n_3 (by omega) (by omega) (fun M4 e1 b1 b2 e2 => ?_))
    have n_4 : M4.1 m 2 = ((n + 16 : Nat) : Int) := e1.trans (by omega)
    have tn : (((n + 12 : Nat) : Int)).toNat = n + 12 := by omega
    rw [tn] at b1 b2
    have f_4 : M4.1 bt = rv_fd (M3.1 bt) (n + 12) a4 := rv_fd_of (fun j hj => (b1 j hj).trans (rv_b712 _ j hj).symm) (fun k hk => (b2 bt k (fun e => ne e.1) (fun e => hk e.2)))
    rw [f_3] at f_4
    have e2_4 : M4.2 = M.2 := e2.trans e2_3
    clear b1 b2 e1 e2 tn
    refine w_aln rfl ?_
    refine w_il rfl ?_
    refine w_cv (st := []) rfl go rfl (Nat.le_of_ble_eq_true rfl) (fun kk h => h) (r_X12_four (d := d) go gb ((congrFun (congrFun (congrArg Prod.snd e2_4) m) 1).trans fa) n_4 (by omega) (by omega) (fun M5 e1 b1 b2 e2 => ?_))
    have n_5 : M5.1 m 2 = ((n + 20 : Nat) : Int) := e1.trans (by omega)
    have tn : (((n + 16 : Nat) : Int)).toNat = n + 16 := by omega
    rw [tn] at b1 b2
    have f_5 : M5.1 bt = rv_fd (M4.1 bt) (n + 16) a5 := rv_fd_of (fun j hj => (b1 j hj).trans (rv_b712 _ j hj).symm) (fun k hk => (b2 bt k (fun e => ne e.1) (fun e => hk e.2)))
    rw [f_4] at f_5
    have e2_5 : M5.2 = M.2 := e2.trans e2_4
    clear b1 b2 e1 e2 tn
    refine w_aln rfl ?_
    refine w_gi go rfl (by decide) rfl (n_5) ?_
    exact w_iret (fun q => by cases q) (h1 (by omega) _ _ f_5)
  · skip
    refine w_ic ?_
    exact w_iret (fun q => by cases q) (h0 (by omega) _ _ (wz_c ne))
