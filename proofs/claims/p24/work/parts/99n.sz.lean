/-! ===== the makers' run: role tags by cells, an exit at the law's loop head (laid by a program) ===== -/
/-- the tag of the cell made as the i-th -/
def sz_rt (i : Nat) : Nat := (cond (Nat.blt i 148) (cond (Nat.blt i 64) (cond (Nat.blt i 25) (cond (Nat.blt i 12) (cond (Nat.blt i 6) (cond (Nat.blt i 3) (cond (Nat.blt i 1) 901000 (cond (Nat.blt i 2) 900050 901050)) (cond (Nat.blt i 4) 902050 (cond (Nat.blt i 5) 903050 904050))) (cond (Nat.blt i 9) (cond (Nat.blt i 7) 905050 (cond (Nat.blt i 8) 906050 907050)) (cond (Nat.blt i 10) 908050 (cond (Nat.blt i 11) 909050 910050)))) (cond (Nat.blt i 18) (cond (Nat.blt i 15) (cond (Nat.blt i 13) 911050 (cond (Nat.blt i 14) 912050 913050)) (cond (Nat.blt i 16) 914050 (cond (Nat.blt i 17) 915050 916050))) (cond (Nat.blt i 21) (cond (Nat.blt i 19) 917050 (cond (Nat.blt i 20) 918050 919050)) (cond (Nat.blt i 23) (cond (Nat.blt i 22) 920050 921050) (cond (Nat.blt i 24) 922050 923050))))) (cond (Nat.blt i 51) (cond (Nat.blt i 31) (cond (Nat.blt i 28) (cond (Nat.blt i 26) 900105 (cond (Nat.blt i 27) 1011 1008)) (cond (Nat.blt i 29) 38101 (cond (Nat.blt i 30) 1007 1004))) (cond (Nat.blt i 41) (cond (Nat.blt i 32) 24103 (cond (Nat.blt i 33) 25104 26100)) (cond (Nat.blt i 42) 27104 (cond (Nat.blt i 50) 28100 29100)))) (cond (Nat.blt i 57) (cond (Nat.blt i 54) (cond (Nat.blt i 52) 30100 (cond (Nat.blt i 53) 1002 16100)) (cond (Nat.blt i 55) 17100 (cond (Nat.blt i 56) 18100 1006))) (cond (Nat.blt i 60) (cond (Nat.blt i 58) 34105 (cond (Nat.blt i 59) 35100 36100)) (cond (Nat.blt i 62) (cond (Nat.blt i 61) 37102 1010) (cond (Nat.blt i 63) 42100 43100)))))) (cond (Nat.blt i 110) (cond (Nat.blt i 97) (cond (Nat.blt i 77) (cond (Nat.blt i 74) (cond (Nat.blt i 65) 44100 (cond (Nat.blt i 66) 45104 46100)) (cond (Nat.blt i 75) 1007 (cond (Nat.blt i 76) 1004 24103))) (cond (Nat.blt i 87) (cond (Nat.blt i 78) 25104 (cond (Nat.blt i 86) 26100 27104)) (cond (Nat.blt i 95) 28100 (cond (Nat.blt i 96) 29100 30100)))) (cond (Nat.blt i 103) (cond (Nat.blt i 100) (cond (Nat.blt i 98) 1002 (cond (Nat.blt i 99) 16100 17100)) (cond (Nat.blt i 101) 18100 (cond (Nat.blt i 102) 1006 34105))) (cond (Nat.blt i 106) (cond (Nat.blt i 104) 35100 (cond (Nat.blt i 105) 36100 37102)) (cond (Nat.blt i 108) (cond (Nat.blt i 107) 1010 42100) (cond (Nat.blt i 109) 43100 44100))))) (cond (Nat.blt i 129) (cond (Nat.blt i 123) (cond (Nat.blt i 120) (cond (Nat.blt i 111) 45104 (cond (Nat.blt i 119) 46100 47106)) (cond (Nat.blt i 121) 48102 (cond (Nat.blt i 122) 1009 39100))) (cond (Nat.blt i 126) (cond (Nat.blt i 124) 40100 (cond (Nat.blt i 125) 41100 1001)) (cond (Nat.blt i 127) 2100 (cond (Nat.blt i 128) 3100 4100)))) (cond (Nat.blt i 139) (cond (Nat.blt i 134) (cond (Nat.blt i 130) 5104 (cond (Nat.blt i 133) 6100 7104)) (cond (Nat.blt i 137) 8100 (cond (Nat.blt i 138) 9100 10104))) (cond (Nat.blt i 144) (cond (Nat.blt i 142) 11100 (cond (Nat.blt i 143) 12100 13100)) (cond (Nat.blt i 146) (cond (Nat.blt i 145) 14100 15100) (cond (Nat.blt i 147) 1005 31100))))))) (cond (Nat.blt i 283) (cond (Nat.blt i 237) (cond (Nat.blt i 210) (cond (Nat.blt i 193) (cond (Nat.blt i 151) (cond (Nat.blt i 149) 32100 (cond (Nat.blt i 150) 33100 1003)) (cond (Nat.blt i 152) 19104 (cond (Nat.blt i 192) 20100 21102))) (cond (Nat.blt i 207) (cond (Nat.blt i 194) 22104 (cond (Nat.blt i 206) 23100 1010)) (cond (Nat.blt i 208) 42100 (cond (Nat.blt i 209) 43100 44100)))) (cond (Nat.blt i 223) (cond (Nat.blt i 220) (cond (Nat.blt i 211) 45104 (cond (Nat.blt i 219) 46100 1010)) (cond (Nat.blt i 221) 42100 (cond (Nat.blt i 222) 43100 44100))) (cond (Nat.blt i 233) (cond (Nat.blt i 224) 45104 (cond (Nat.blt i 232) 46100 1010)) (cond (Nat.blt i 235) (cond (Nat.blt i 234) 42100 43100) (cond (Nat.blt i 236) 44100 45104))))) (cond (Nat.blt i 270) (cond (Nat.blt i 250) (cond (Nat.blt i 247) (cond (Nat.blt i 245) 46100 (cond (Nat.blt i 246) 49101 1007)) (cond (Nat.blt i 248) 1004 (cond (Nat.blt i 249) 24103 25104))) (cond (Nat.blt i 267) (cond (Nat.blt i 258) 26100 (cond (Nat.blt i 259) 27104 28100)) (cond (Nat.blt i 268) 29100 (cond (Nat.blt i 269) 30100 1002)))) (cond (Nat.blt i 276) (cond (Nat.blt i 273) (cond (Nat.blt i 271) 16100 (cond (Nat.blt i 272) 17100 18100)) (cond (Nat.blt i 274) 1006 (cond (Nat.blt i 275) 34105 35100))) (cond (Nat.blt i 279) (cond (Nat.blt i 277) 36100 (cond (Nat.blt i 278) 37102 1010)) (cond (Nat.blt i 281) (cond (Nat.blt i 280) 42100 43100) (cond (Nat.blt i 282) 44100 45104)))))) (cond (Nat.blt i 336) (cond (Nat.blt i 316) (cond (Nat.blt i 303) (cond (Nat.blt i 293) (cond (Nat.blt i 291) 46100 (cond (Nat.blt i 292) 1007 1004)) (cond (Nat.blt i 294) 24103 (cond (Nat.blt i 295) 25104 26100))) (cond (Nat.blt i 313) (cond (Nat.blt i 304) 27104 (cond (Nat.blt i 312) 28100 29100)) (cond (Nat.blt i 314) 30100 (cond (Nat.blt i 315) 1002 16100)))) (cond (Nat.blt i 322) (cond (Nat.blt i 319) (cond (Nat.blt i 317) 17100 (cond (Nat.blt i 318) 18100 1006)) (cond (Nat.blt i 320) 34105 (cond (Nat.blt i 321) 35100 36100))) (cond (Nat.blt i 325) (cond (Nat.blt i 323) 37102 (cond (Nat.blt i 324) 1010 42100)) (cond (Nat.blt i 327) (cond (Nat.blt i 326) 43100 44100) (cond (Nat.blt i 328) 45104 46100))))) (cond (Nat.blt i 348) (cond (Nat.blt i 342) (cond (Nat.blt i 339) (cond (Nat.blt i 337) 1012 (cond (Nat.blt i 338) 50101 51100)) (cond (Nat.blt i 340) 52100 (cond (Nat.blt i 341) 53100 54103))) (cond (Nat.blt i 345) (cond (Nat.blt i 343) 55103 (cond (Nat.blt i 344) 56100 57100)) (cond (Nat.blt i 346) 58100 (cond (Nat.blt i 347) 59100 60100)))) (cond (Nat.blt i 354) (cond (Nat.blt i 351) (cond (Nat.blt i 349) 61100 (cond (Nat.blt i 350) 62100 63100)) (cond (Nat.blt i 352) 64100 (cond (Nat.blt i 353) 65100 66100))) (cond (Nat.blt i 357) (cond (Nat.blt i 355) 67101 (cond (Nat.blt i 356) 68100 69102)) (cond (Nat.blt i 359) (cond (Nat.blt i 358) 70100 71103) (cond (Nat.blt i 360) 72102 90103))))))))
def sz_bd (t n : Nat) : Nat := cond (Nat.ble 100 (Nat.mod t 1000)) n 70
def sz_i1 (q : Int × Int) (v : sx_I) : Bool := match v with
  | .inl z => sx_le q.1 z && sx_le z q.2
  | .inr _ => false
noncomputable def sz_is (t : Nat) (a : Lean.RArray sx_I) (n : Nat) : Bool := Nat.rec (motive := fun _ => Bool) true (fun k ih => sz_i1 (ab_rg t k) (sx_g a k) && ih) n
noncomputable def sz_r1 (h : sx_H) (q : Option (Nat × Nat)) (v : Option Nat) : Bool := match q with
  | none => true
  | some (t, n) => match v with
    | none => Nat.beq t 0 || Nat.beq t 1
    | some j => Nat.blt j h.1 && sx_cl h j fun t' n' _ _ _ => (Nat.beq t 50 && Nat.beq (Nat.mod t' 1000) 50) || (!(Nat.beq t 0) && (!(Nat.beq t 1) && (!(Nat.beq t 50) && (Nat.beq t t' && Nat.beq n n'))))
noncomputable def sz_rs (h : sx_H) (t : Nat) (c : Lean.RArray (Option Nat)) (n : Nat) : Bool := Nat.rec (motive := fun _ => Bool) true (fun k ih => sz_r1 h (ab_rf t k) (sx_g c k) && ih) n
/-- one cell keeps its role -/
noncomputable def sz_c1 (h : sx_H) (i : Nat) : Bool := sx_cl h i fun t n a _ c => cond (Nat.ble (sz_bd t n) 4096) (sz_is t a (sz_bd t n) && sz_rs h t c (sz_bd t n)) false
noncomputable def sz_cs (h : sx_H) (n : Nat) : Bool := Nat.rec (motive := fun _ => Bool) true (fun i ih => sz_c1 h i && ih) n
/-- the first n ints of a cell are 0 -/
def sz_z1 (v : sx_I) : Bool := match v with
  | .inl z => sx_eq z (.ofNat 0)
  | .inr _ => false
noncomputable def sz_zs (a : Lean.RArray sx_I) (n : Nat) : Bool := Nat.rec (motive := fun _ => Bool) true (fun k ih => sz_z1 (sx_g a k) && ih) n
noncomputable def sz_tg (h : sx_H) (i t n : Nat) : Bool := sx_cl h i fun t' n' _ _ _ => Nat.beq t t' && Nat.beq n n'
noncomputable def sz_rq (h : sx_H) (i k j : Nat) : Bool := sx_cl h i fun _ _ _ _ c => match sx_g c k with
  | some j' => Nat.beq j j'
  | none => false
noncomputable def sz_iz (h : sx_H) (i n : Nat) : Bool := sx_cl h i fun _ _ a _ _ => sz_zs a n
noncomputable def sz_ik (h : sx_H) (i k : Nat) : Bool := sx_cl h i fun _ _ a _ _ => sz_z1 (sx_g a k)
def sz_Lk (L : sx_L) : Bool := match L with
  | [some (.inr (.inr (some a))), some (.inr (.inr (some b))), some (.inr (.inr (some c))), some (.inr (.inr (some d))), some (.inl (.inl z)), none, none] => Nat.beq a 0 && (Nat.beq b 26 && (Nat.beq c 336 && (Nat.beq d 360 && sx_eq z (.ofNat 0))))
  | _ => false
noncomputable def sz_hk (h : sx_H) : Bool := Nat.beq h.1 361 && (sz_cs h 361 && ((sz_tg h 26 1011 0 && (sz_tg h 336 1012 0 && (sz_tg h 27 1008 0 && (sz_tg h 338 51100 537 && (sz_tg h 357 70100 1076 && sz_tg h 360 90103 1))))) && ((sz_rq h 26 0 27 && (sz_rq h 336 6 338 && sz_rq h 336 59 357)) && (sz_iz h 27 2 && (sz_iz h 336 3 && (sz_ik h 338 356 && (sz_iz h 357 1076 && (sz_tg h 120 48102 2 && (sz_tg h 359 72102 2 && (sz_rq h 26 4 120 && (sz_rq h 336 61 359 && (sz_iz h 120 2 && sz_iz h 359 2))))))))))))
noncomputable def sz_fin : sx_K := fun _ _ rest L st cb sb fs h _ => fs.isEmpty && (st.isEmpty && (Nat.beq rest.length 751 && (Nat.ble 2100 cb && (Nat.ble 34000 sb && (sz_Lk L && sz_hk h)))))
/-- the first cells: the script, the words, the list of all words -/
def sz_i0 (e : Nat → Nat) (w : sx_w) : Prop := 26 ≤ w.2.2.1 ∧ ∀ i, i < 26 → w.2.2.2 i = e i
theorem sz_i0.up {e : Nat → Nat} {w w' : sx_w} (u : sx_up w w') (h : sz_i0 e w) : sz_i0 e w' := ⟨Nat.le_trans h.1 u.2.2.1, fun i hi => (u.2.2.2 i (Nat.lt_of_lt_of_le hi h.1)).trans (h.2 i hi)⟩
/-- what stands at the loop's head -/
def sz_E (e : Nat → Nat) (Z : mj_S) : Prop := ∀ (w : sx_w) (h : sx_H) (L : sx_L) (L' : mj_L) (rest : List mj_E) (G : mj_G) (M : mj_M) (cb sb : Nat), sz_i0 e w → rest.length = 751 → sx_RH w h G M → sx_RL w L L' → sz_Lk L = true → sz_hk h = true → 2100 ≤ cb → 34000 ≤ sb → Z rest L' [] G M cb sb
def sz_cz (q : Nat → Nat) (fs : List sx_F) (y d : Nat) (Q : mj_P) (Z : mj_S) : Prop := (∀ rest L st G M cb sb, mj_x sx_ms (mj_R mj_tab d) (sx_full y) Q Z 1 rest L st G M cb sb → Z rest L st G M cb sb) ∧ (fs = [] → sz_E q Z)
def sz_RF (q : Nat → Nat) (w : sx_w) : List sx_F → mj_P → Prop
  | [], Q => (∀ G M, Q (some (.inl 1)) G M) ∧ sz_i0 q w
  | (y, d, rest, L, st, cb, sb) :: fs, Q => ∃ (L' : mj_L) (st' : List mj_V) (Q' : mj_P) (Z : mj_S), sz_cz q fs y d Q' Z ∧ sx_RL w L L' ∧ sx_RS w st st' ∧ sz_RF q w fs Q' ∧ ∀ r G M, Z rest L' (mj_ret r st') G M cb sb → Q r G M
theorem sz_RF.up {q : Nat → Nat} {w w' : sx_w} (u : sx_up w w') : ∀ {fs : List sx_F} {Q : mj_P}, sz_RF q w fs Q → sz_RF q w' fs Q
  | [], _, h => ⟨h.1, h.2.up u⟩
  | (_, _, _, _, _, _, _) :: _, _, h => by
    obtain ⟨L', st', Q', Z, h1, h2, h3, h4, h5⟩ := h
    exact ⟨L', st', Q', Z, h1, h2.up u, h3.up u, h4.up u, h5⟩
def sz_Sem (q : Nat → Nat) (y d : Nat) (rest : List mj_E) (L : sx_L) (st : List sx_V) (cb sb : Nat) (fs : List sx_F) (h : sx_H) (Y : sx_Y) : Prop := ∀ (w : sx_w) (L' : mj_L) (st' : List mj_V) (G : mj_G) (M : mj_M) (Q : mj_P) (Z : mj_S), sz_cz q fs y d Q Z → sx_RL w L L' → sx_RS w st st' → sz_RF q w fs Q → sx_RH w h G M → sx_RY w Y → Z rest L' st' G M cb sb
def sz_ks (q : Nat → Nat) (K : sx_K) : Prop := ∀ y d rest L st cb sb fs h Y, K y d rest L st cb sb fs h Y = true → sz_Sem q y d rest L st cb sb fs h Y
theorem sz_call_s {q : Nat → Nat} {K : sx_K} (hK : sz_ks q K) {y d : Nat} {rest : List mj_E} {L : sx_L} {st : List sx_V} {cb sb : Nat} {fs : List sx_F} {h : sx_H} {Y : sx_Y} {f : Nat} {av : List sx_V} {w : sx_w} {L' : mj_L} {st' av' : List mj_V} {G : mj_G} {M : mj_M} {Q : mj_P} {Z : mj_S} (hk : sx_call K y d rest L st cb sb fs h Y f av = true) (hz : sz_cz q fs y d Q Z) (hL : sx_RL w L L') (hS : sx_RS w st st') (hA : sx_RS w av av') (hF : sz_RF q w fs Q) (hH : sx_RH w h G M) (hY : sx_RY w Y) :
    mj_cat st' ≤ 8 ∧ (sx_ms f).1 ≤ cb ∧ (sx_ms f).2 ≤ sb ∧ mj_R mj_tab d f av' G M fun r G M => Z rest L' (mj_ret r st') G M (cb - (sx_ms f).1) (sb - (sx_ms f).2) := by
  cases d with
  | zero => cases hk
  | succ d =>
    obtain ⟨hc, hk⟩ := sx_cd hk
    obtain ⟨c1, hc⟩ := sx_nd hc
    obtain ⟨c2, hc⟩ := sx_nd hc
    obtain ⟨c3, hc⟩ := sx_nd hc
    obtain ⟨c4, c5⟩ := sx_nd hc
    refine ⟨by rw [← sx_cat_s hS]; exact sx_ble c1, sx_ble c2, sx_ble c3, by rw [← sx_wd_s hA]; exact sx_ble c4, ?_⟩
    intro Z' hZ'
    have hfull : sx_full f = (mj_tab f).2.2.2.2.1 := by unfold sx_full; rw [c5]; rfl
    refine hK _ _ _ _ _ _ _ _ _ _ hk w _ _ G M _ Z' ⟨by rw [hfull]; exact hZ', fun q => by cases q⟩ (sx_en_s _ hA) rfl ⟨L', st', Q, Z, hz, hL, hS, hF, fun r G M h => h⟩ hH hY
theorem sz_back_s {q : Nat → Nat} {K : sx_K} (hK : sz_ks q K) {fs : List sx_F} {h : sx_H} {Y : sx_Y} {w : sx_w} {G : mj_G} {M : mj_M} {Q : mj_P} {r : Option sx_V} {r' : Option mj_V} (hk : sx_back K fs h Y r = true) (hr : match r with
    | none => r' = none
    | some v => ∃ v', r' = some v' ∧ sx_RV w v v') (hF : sz_RF q w fs Q) (hH : sx_RH w h G M) (hY : sx_RY w Y) : Q r' G M := by
  match fs, hk, hF with
  | [], hk, hF =>
    cases r with
    | none => cases hk
    | some v =>
      rcases v with x | x
      · have hk : sx_kn Y x (fun z => sx_eq z (.ofNat 1)) = true := hk
        obtain ⟨v', rfl, z, rfl, hz⟩ := hr
        have hz1 := sx_kn_s hk hY hz
        have := sx_eq_iff.mp hz1
        rw [show z = 1 from this]
        exact hF.1 G M
      · cases hk
  | (y, d, rest, L, st, cb, sb) :: fs, hk, hF =>
    obtain ⟨L', st', Q', Z, z1, z2, z3, z4, z5⟩ := hF
    cases r with
    | none =>
      obtain rfl : r' = none := hr
      exact z5 none G M (hK _ _ _ _ _ _ _ _ _ _ hk w L' st' G M Q' Z z1 z2 z3 z4 hH hY)
    | some v =>
      obtain ⟨v', rfl, hv⟩ := hr
      exact z5 (some v') G M (hK _ _ _ _ _ _ _ _ _ _ hk w L' (v' :: st') G M Q' Z z1 z2 ⟨v', st', rfl, hv, z3⟩ z4 hH hY)
theorem sz_mul_s {w : sx_w} {h : sx_H} {G : mj_G} {M : mj_M} {n m t1 t2 : Nat} {k : Nat → sx_H → Bool} (hk : (sx_nw h t1 n fun i h => sx_rws t2 m n h fun h => sx_cl h i fun t l a b c => sx_rfs (i + 1) n c fun c => sx_pt h i (t, l, a, b, c) fun h => k i h) = true) (hH : sx_RH w h G M) (ht1 : t1 ≠ 0) (ht2 : t2 ≠ 0) {a : Nat} (ha : ∀ x, a ≤ x → G x = (0, 0)) :
    ∃ h', sx_RH (sx_wn w a (1 + n)) h' (mj_gg G a t1 n t2 m) (mj_zz M a n) ∧ k w.2.2.1 h' = true := by
  obtain ⟨hj, hk⟩ := sx_cd hk
  have hj := sx_blt hj
  rw [sx_sk_eq] at hk
  obtain ⟨h2, b1, b2, b3, hk⟩ := sx_rws_s n hk hj
  have b1 : h2.1 = h.1 + 1 + n := b1
  have b3 : ∀ j, j < 4096 → sx_g h2.2 j = if h.1 + 1 ≤ j ∧ j < h.1 + 1 + n then sx_nc t2 m else sx_g (sx_s 12 h.2 h.1 (sx_nc t1 n)) j := b3
  have b4 : sx_g h2.2 h.1 = sx_nc t1 n := by rw [b3 _ hj, if_neg (by omega), sx_g12 _ _ hj hj, if_pos rfl]
  rw [sx_cl_eq, b4] at hk
  obtain ⟨u, u1, hk⟩ := sx_rfs_s n hk (by omega)
  rw [sx_pt_eq] at hk
  have hu : ∀ j, j < 4096 → sx_g u j = if j < n then some (h.1 + 1 + j) else none := fun j hj => u1 j hj
  have e1 := hH.1
  have wv : ∀ j, j < 1 + n → (sx_wn w a (1 + n)).2.2.2 (h.1 + j) = a + j := fun j hj' => by
    show (if h.1 + j < w.2.2.1 then w.2.2.2 (h.1 + j) else a + (h.1 + j - w.2.2.1)) = a + j
    rw [if_neg (by omega)]; omega
  refine ⟨_, hH.new (n := 1 + n) ha (h' := (h2.1, sx_s 12 h2.2 h.1 ((sx_nc t1 n).1, (sx_nc t1 n).2.1, (sx_nc t1 n).2.2.1, (sx_nc t1 n).2.2.2.1, u))) (by show h2.1 = _; omega) b2 (fun j hj' => ?_) (fun x hx => ?_) (fun x hx => ?_) (fun j hj' => ?_), by rw [← hH.1]; exact hk⟩
  · show sx_g (sx_s 12 h2.2 h.1 _) j = _
    rw [sx_g12 _ _ hj (by omega), if_neg (by omega), b3 _ (by omega), if_neg (by omega), sx_g12 _ _ hj (by omega), if_neg (by omega)]
  · unfold mj_gg; rw [if_neg (by omega), if_neg (by omega)]
  · unfold mj_zz
    have n1 : ¬ (a ≤ x ∧ x ≤ a + n) := fun q => hx q.1
    have n2 : ¬ x = a := fun q => hx (by omega)
    exact ⟨fun _ => if_neg n1, fun _ => if_neg n1, fun _ => by dsimp only; rw [if_neg n2, if_neg n1]⟩
  · show sx_RC _ _ _ (h.1 + j) (sx_g (sx_s 12 h2.2 h.1 _) (h.1 + j))
    unfold sx_RC
    rw [wv j hj', sx_g12 _ _ hj (by omega)]
    have n1 : a ≤ a + j ∧ a + j ≤ a + n := ⟨by omega, by omega⟩
    by_cases e : j = 0
    · subst e
      rw [if_pos (Nat.add_zero _), Nat.add_zero]
      refine ⟨by unfold mj_gg; rw [if_pos rfl]; rfl, ht1, fun q hq => ⟨?_, ?_, ?_⟩⟩
      · show (0 : Int) = (mj_zz M a n).1 a q
        unfold mj_zz; dsimp only; rw [if_pos (by omega)]
      · show (mj_zz M a n).2.1 a q = 0
        unfold mj_zz; dsimp only; rw [if_pos (by omega)]
      · show sx_RO _ (sx_g u q) ((mj_zz M a n).2.2 a q)
        rw [hu q hq]
        unfold mj_zz
        dsimp only
        rw [if_pos rfl]
        by_cases e2 : q < n
        · rw [if_pos e2, if_pos e2]
          refine ⟨by show h.1 + 1 + q < w.2.2.1 + (1 + n); omega, ?_⟩
          rw [show h.1 + 1 + q = h.1 + (1 + q) by omega, wv (1 + q) (by omega), show a + (1 + q) = a + 1 + q by omega]
        · rw [if_neg e2, if_neg e2]; rfl
    · rw [if_neg (by omega), b3 _ (by omega), if_pos (by omega)]
      refine ⟨by unfold mj_gg; rw [if_neg (by omega), if_pos (by omega)]; rfl, ht2, fun q hq => ⟨?_, ?_, ?_⟩⟩
      · show (0 : Int) = (mj_zz M a n).1 (a + j) q
        unfold mj_zz; dsimp only; rw [if_pos n1]
      · show (mj_zz M a n).2.1 (a + j) q = 0
        unfold mj_zz; dsimp only; rw [if_pos n1]
      · show (mj_zz M a n).2.2 (a + j) q = none
        unfold mj_zz; dsimp only; rw [if_neg (by omega), if_pos n1]
theorem sz_fin_s {q : Nat → Nat} : sz_ks q sz_fin := by
  intro y d rest L st cb sb fs h Y hk w L' st' G M Q Z hz hL hS hF hH hY
  unfold sz_fin at hk
  obtain ⟨k1, hk⟩ := sx_nd hk
  obtain ⟨k2, hk⟩ := sx_nd hk
  obtain ⟨k3, hk⟩ := sx_nd hk
  obtain ⟨k4, hk⟩ := sx_nd hk
  obtain ⟨k5, hk⟩ := sx_nd hk
  obtain ⟨k6, k7⟩ := sx_nd hk
  obtain rfl : fs = [] := by cases fs with
    | nil => rfl
    | cons _ _ => cases k1
  obtain rfl : st = [] := by cases st with
    | nil => rfl
    | cons _ _ => cases k2
  obtain rfl : st' = [] := hS
  exact hz.2 rfl w h L L' rest G M cb sb hF.2 (sx_beq k3) hH hL k6 k7 (sx_ble k4) (sx_ble k5)
