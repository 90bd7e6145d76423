/-! ===== the law's told ===== -/
/-- how told's answer is told on -/
def td_R (M : mj_M) (c0 tl q0 : Nat) (p0 p1 : Int) (z : Int) (M' : mj_M) : Prop := (z = 1 ∧ td_no M c0 p0 p1) ∨ (z = 0 ∧ td_is M c0 p0 p1 ∧ M'.2.1 q0 0 = (Int32.ofInt (td_va M tl p0 p1)).toInt64)
abbrev td_Ql (c0 tl q0 : Nat) (p0 p1 : Int) (G : mj_G) (M : mj_M) : mj_P := fun r G' M' => (∃ z, r = some (.inl z) ∧ td_R M c0 tl q0 p0 p1 z M') ∧ G' = G ∧ M'.1 = M.1 ∧ M'.2.2 = M.2.2 ∧ ∀ y k, (G y).1 = 55103 → M'.2.1 y k = M.2.1 y k
theorem td_cov : covers { startPc := 0, endPc := 10, handlerPc := 13, catchType := 13 } 5 = true := by decide
set_option maxHeartbeats 2000000 in
theorem td_l {l : Launch} (hl : l.stackTraces = false) {D : va_G} {dA : Nat → ClassId} {B sa a b c0 tl q0 : Nat} {p0 p1 : Int} {G : mj_G} {M : mj_M} (hp : td_Pre G M a b c0 tl) (hq0 : G q0 = (90103, 1)) : Met l yL_told (.codeWith yL_told cL_told 5 (some .int) [(0, 10, 13, 13)] :: mj_tb) (mj_rm 12 (4, 64)) (td_Pc D dA B sa [.inr (.inr (some a)), .inl p0, .inl p1, .inr (.inr (some q0))] G M) (mj_Q D dA B (td_Ql c0 tl q0 p0 p1 G M)) 4 64 (fun q => B ≤ q) := by
  refine va_MetW (cc := cL_told) (maxL := 5) (ret := some .int) (hh := [(0, 10, 13, 13)]) (by decide) rfl ?_
  intro p e s m args below meth c s₁ Bd hml hv
  obtain ⟨rfl, ⟨hH, hK, hok, hB⟩, hS4⟩ := hv
  have hts := atoms_spec (ws := Cond.codeWith yL_told cL_told 5 (some .int) [(0, 10, 13, 13)] :: mj_tb) Bd.pre
  have htb : ∀ w ∈ mj_tb, w.before _ s = true := fun w hw => hts w (List.mem_cons_of_mem _ hw)
  have htab : c.exceptionTable.toList = tableOf [(0, 10, 13, 13)] := vx_table (x := yL_told) Bd (hts _ List.mem_cons_self)
  have hown : s.vm.findClass RL = some m.cls := findClass_of_methodNamed Bd.named
  rw [lg_entry_eq]
  have hlen : (lg_sl ((([.inr (.inr (some a)), .inl p0, .inl p1, .inr (.inr (some q0))] : List mj_V)).map mj_val)).length ≤ 5 := by rw [mj_wd_eq]; show 4 ≤ 5; decide
  have hls := lv_entry ((([.inr (.inr (some a)), .inl p0, .inl p1, .inr (.inr (some q0))] : List mj_V)).map mj_val) (n := 5) hlen
  generalize ((lg_sl ((([.inr (.inr (some a)), .inl p0, .inl p1, .inr (.inr (some q0))] : List mj_V)).map mj_val) ++ List.replicate (5 - (lg_sl ((([.inr (.inr (some a)), .inl p0, .inl p1, .inr (.inr (some q0))] : List mj_V)).map mj_val)).length) Slot.unset).toArray) = ls at hls ⊢
  have h0 : ls[0]? = some (.val (.ref a)) := lv_at hls 0 rfl
  have h1 : ls[1]? = some (.val (.int (Int32.ofInt p0))) := lv_at hls 1 rfl
  have h2 : ls[2]? = some (.val (.int (Int32.ofInt p1))) := lv_at hls 2 rfl
  have h3 : ls[3]? = some (.val (Value.ref q0)) := lv_at hls 3 rfl
  have first : W p l e (mj_rm 12 (4, 64)) s m (List.map mj_val [.inr (.inr (some a)), .inl p0, .inl p1, .inr (.inr (some q0))]).toArray below meth c s.heap [] 0 0 (MQ below (mj_Q D dA B (td_Ql c0 tl q0 p0 p1 G M)) (List.map mj_val [.inr (.inr (some a)), .inl p0, .inl p1, .inr (.inr (some q0))]).toArray s 4 64 (fun q => B ≤ q)) (F0 m 1 ls [Value.ref q0]) := by
    refine lv_iconst (n := 0) Bd.exec Bd.bytes (by decide +kernel) rfl ?_
    refine lv_aload_n (k := 0) Bd.exec Bd.bytes (by decide +kernel) rfl h0 ?_
    refine lv_iload_n (k := 1) Bd.exec Bd.bytes (by decide +kernel) rfl h1 ?_
    refine lv_iload_n (k := 2) Bd.exec Bd.bytes (by decide +kernel) rfl h2 ?_
    have hgood : GoodIn mj_tb (wsV RL 7 RX11 yX11_told (.code yX11_told cX11_told 3 (some .int) :: mj_tb)) := mj_good fun w hw => by
      simp only [wsV, List.cons_append, List.nil_append, List.mem_cons] at hw
      rcases hw with rfl | rfl | rfl | rfl | rfl | hw
      · exact td_w5.1
      · exact td_w5.2.1
      · exact td_w5.2.2.1
      · exact td_w4.2.2.2.1
      · exact td_w5.2.2.2
      · exact hw
    have hr := vx_runV (R := (mj_rm 12 (4, 64))) (As := [Value.int (Int32.ofInt p0), Value.int (Int32.ofInt p1)]) (rest := [Value.int 0, Value.ref q0]) (b := a) (H := s.heap) (locs := []) (cells := 0) (slots := 0) (g := F0 m 5 ls [Value.int (Int32.ofInt p1), Value.int (Int32.ofInt p0), Value.ref a, Value.int 0, Value.ref q0]) (below := below) (meth := meth) (e := e) ⟨Bd.exec, Bd.bytes, hml, hown, htb⟩ (td_x (D := D) (dA := dA) (B := B) (sa := sa) (p0 := p0) (p1 := p1) hl hp)
      (cwV 2 htb hgood rfl rfl rfl ⟨rfl, by decide, by decide, by decide⟩ ⟨by decide, by decide⟩) ⟨td_blind, td_obj (ci := 10) hH hK hp.1 rfl rfl, fun U hU hW => ⟨rfl, ⟨by rw [hU]; exact hH, mj_K.moved hW.alike hK, fun v hv => hok v (by
        simp only [List.mem_cons, List.not_mem_nil, or_false] at hv ⊢
        rcases hv with h | h | h <;> simp [h]), by rw [hU]; exact hB.1, hB.2.go va_S.rf hU hW.alike⟩, hS4.kept va_S.rf hU hW⟩⟩ rfl rfl hls.1 rfl (by show 2 * 0 + (1 + (1 + 0)) ≤ 8; decide) (show decode cL_told 5 = .ok (.invokevirtual 7, 3) from by decide +kernel) ⟨by decide, by decide⟩
    intro T hT XS
    rcases hr T hT XS with ⟨v, st₀, t, T', L', h00, X', hL', x1, x2, hq, stp⟩ | ⟨q, st₀, t, T', L', E, ce, h00, X', hL', x1, x2, hq, hce, hcv, hcl, stp⟩
    · obtain ⟨r, G', M', hv, ⟨⟨hr0, hgd⟩, rfl, rfl⟩, hok', hH', hK', hz, hk⟩ := hq
      obtain ⟨z, rfl, hzv⟩ : ∃ z, r = some (.inl z) ∧ z = td_va M' tl p0 p1 := ⟨_, hr0, rfl⟩
      obtain rfl : v = some (.int (Int32.ofInt z)) := Outcome.returned.inj hv
      rw [h00] at hz hk
      have hS' : va_S (fun q => B ≤ q) s.heap T'.heap ([] ++ L') := ⟨by rw [x1]; exact hz, fun q h1 h2 => by rw [x1]; exact hk q h1 h2, fun q hq => by
          rcases List.mem_append.mp hq with h | h
          · cases h
          · exact hL' q h⟩
      have X : mj_X p l e (mj_rm 12 (4, 64)) s m (List.map mj_val [.inr (.inr (some a)), .inl p0, .inl p1, .inr (.inr (some q0))]).toArray below meth c RL cL_told (some .int) D dA B 5 4 64 (td_Ql c0 tl q0 p0 p1 G' M') :=
        ⟨⟨Bd.exec, Bd.bytes, hml, Bd.returns, hown⟩, htb, Bd.notSynchronized, hK, hB, by decide, by decide, by decide, by decide⟩
      have J : mj_J X 8 (mj_en [.inr (.inr (some a)), .inl p0, .inl p1, .inr (.inr (some q0))] 5) [.inl z, .inl 0, .inr (.inr (some q0))] G' M' 3 58 := by
        refine mj_o_i2l X (by decide +kernel) ?_
        refine mj_o_lastore X (by decide +kernel) hq0 rfl (by decide) (by decide) (by decide) ?_
        refine mj_o_goto X (off := 7) (tgt := 17) (by decide +kernel) (by decide) ?_
        refine mj_o_iconst X (z := 0) (by decide +kernel) ⟨by decide, by decide⟩ ?_
        exact mj_o_ireturn X (by decide +kernel) (Or.inl rfl) ⟨⟨0, rfl, Or.inr ⟨rfl, hgd, by rw [← hzv]; exact if_pos ⟨rfl, rfl⟩⟩⟩, rfl, rfl, rfl, fun y k hy => if_neg (fun e => by rw [e.1, hq0] at hy; exact absurd hy (by decide))⟩
      have hz1 : mj_in z := hok' _ rfl
      have K := J T'.heap ([] ++ L') ls (0 + 1) (0 + 6) (by rw [x1]; exact hH') hS' ⟨by rw [mj_en_asc]; exact hls, rfl, fun j v hj => mj_en_ok _ _ j v hok hj⟩ (fun v hv => by
        simp only [List.mem_cons, List.not_mem_nil, or_false] at hv
        rcases hv with h | h | h
        · rw [h]; exact hz1
        · rw [h]; exact ⟨by decide, by decide⟩
        · rw [h]; trivial) (by decide) (by decide)
      obtain ⟨t2, a1, b1⟩ := K T' rfl X'
      exact ⟨t2, stp t2 a1, b1⟩
    · obtain ⟨rfl, hno, hH', hK', hz, hk⟩ := hq
      rw [h00] at hz hk
      have hS' : va_S (fun q => B ≤ q) s.heap T'.heap ([] ++ L') := ⟨by rw [x1]; exact hz, fun q h1 h2 => by rw [x1]; exact hk q h1 h2, fun q hq => by
          rcases List.mem_append.mp hq with h | h
          · cases h
          · exact hL' q h⟩
      have hH9 : mj_H D dA B G M T'.heap := by rw [x1]; exact hH'
      have K : W p l e (mj_rm 12 (4, 64)) s m (List.map mj_val [.inr (.inr (some a)), .inl p0, .inl p1, .inr (.inr (some q0))]).toArray below meth c T'.heap ([] ++ L') (0 + 1) (0 + 6) (MQ below (mj_Q D dA B (td_Ql c0 tl q0 p0 p1 G M)) (List.map mj_val [.inr (.inr (some a)), .inl p0, .inl p1, .inr (.inr (some q0))]).toArray s 4 64 (fun q => B ≤ q)) (F0 m 13 ls [.ref q]) := by
        refine lv_astore (i := 4) Bd.exec Bd.bytes (by decide +kernel) hls (by decide) rfl (fun ls' _ => ?_)
        refine lv_iconst (n := 1) Bd.exec Bd.bytes (by decide +kernel) rfl ?_
        refine W.widen (k := 4) (n := 64) (by decide) (by decide) ?_
        exact W.iret Bd.exec Bd.bytes Bd.returns (fun t9 ht9 hW9 => ⟨some (.inl 1), G, M, rfl, ⟨⟨1, rfl, Or.inl ⟨rfl, hno⟩⟩, rfl, rfl, rfl, fun _ _ _ => rfl⟩, (fun v hv => by cases hv; exact ⟨by decide, by decide⟩), by rw [ht9]; exact hH9, mj_K.moved hW9.alike hK, hS'.F ht9⟩) hS'.2.2 (by decide +kernel) Bd.notSynchronized
      have hcw := vx_catch (own := RL) (name := td_E) (E := td_E) (ce := ce) (q := q) (pc := 5) (rest := [Value.int 0, Value.ref q0]) (ls := ls) hown [] { startPc := 0, endPc := 10, handlerPc := 13, catchType := 13 } [] (by rw [htab]; rfl) (fun z hz => by cases hz) td_cov (by decide) (htb _ td_w3.2.2) (va_Nw.use rfl hS4.2.2.2.1) (by rw [x1]; exact hce) hcv hcl K
      obtain ⟨t2, a1, b1⟩ := hcw T' rfl X'
      exact ⟨t2, stp.trans a1, b1⟩
  exact lv_aload_n (k := 3) Bd.exec Bd.bytes (by decide +kernel) rfl h3 first
