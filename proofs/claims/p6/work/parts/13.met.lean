/-! ===== a run of the small machine gives the method's contract ===== -/
theorem mj_w_lib : (Cond.static Lib.Math.max.name ∈ mj_tb ∧ Cond.code Lib.Math.max.name Lib.Math.max.code 2 (some .int) ∈ mj_tb) ∧ (Cond.static Lib.Math.min.name ∈ mj_tb ∧ Cond.code Lib.Math.min.name Lib.Math.min.code 2 (some .int) ∈ mj_tb) ∧ (Cond.static Lib.Math.abs.name ∈ mj_tb ∧ Cond.code Lib.Math.abs.name Lib.Math.abs.code 1 (some .int) ∈ mj_tb) ∧ Cond.initialized "java/lang/Math" ∈ mj_tb ∧ Cond.native arraycopyName ∈ mj_tb ∧ Cond.static arraycopyName ∈ mj_tb ∧ Cond.initialized "java/lang/System" ∈ mj_tb := by decide +kernel
theorem mj_w_arr : Cond.arrayClass .int ∈ mj_tb := by decide +kernel
theorem mj_w_oi : Cond.instanceMethod objectInit ∈ mj_tb := by decide +kernel
theorem mj_w_oc : Cond.code objectInit ⟨#[0xb1]⟩ 1 none ∈ mj_tb := by decide +kernel
theorem mj_cm_of {T : Nat → mj_T} {q : mj_T} (h : mj_ok1 T q = true) : mj_cm q = true := by
  unfold mj_ok1 at h
  rw [Bool.and_eq_true, Bool.and_eq_true] at h
  exact h.1.1
theorem mj_cm_pn {q : mj_T} (h : mj_cm q = true) : plainName q.1.cls = true ∧ q.2.2.1 ≤ 80 := by
  unfold mj_cm at h
  simp only [Bool.and_eq_true, decide_eq_true_eq] at h
  obtain ⟨⟨⟨⟨⟨⟨⟨m1, m2⟩, m3⟩, m4⟩, m5⟩, m6⟩, m7⟩, -⟩ := h
  exact ⟨m6, m7⟩
theorem mj_met {l : Launch} {D : va_G} {dA : Nat → ClassId} {B : Nat} {T : Nat → mj_T} (hT : ∀ y, mj_ok1 T (T y) = true) : ∀ (d y : Nat) (av : List mj_V) (G : mj_G) (M : mj_M) (Q : mj_P), mj_R T d y av G M Q → mj_Mt l D dA B (T y) d av G M Q
  | 0, _, _, _, _, _, h => h.elim
  | d + 1, y, av, G, M, Q, h => by
    obtain ⟨hwd, hrun⟩ := h
    have hq := hT y
    have hcm := mj_cm_of hq
    obtain ⟨hpn, h80⟩ := mj_cm_pn hcm
    unfold mj_ok1 at hq
    rw [Bool.and_eq_true, Bool.and_eq_true] at hq
    obtain ⟨⟨-, hca⟩, hp0⟩ := hq
    have hp0 := of_decide_eq_true hp0
    unfold mj_Mt
    refine Met.ofW (cc := (T y).2.1) (maxL := (T y).2.2.1) (ret := (T y).2.2.2.1) hpn rfl ?_
    intro p e s m args below meth c s₁ Bd hml hv
    obtain ⟨rfl, hH, hK, hok, hB⟩ := hv
    have hts := atoms_spec (ws := Cond.code (T y).1 (T y).2.1 (T y).2.2.1 (T y).2.2.2.1 :: mj_tb) Bd.pre
    have X : mj_X p l e (mj_rm (d + 1) (T y).2.2.2.2.2.2) s m (av.map mj_val).toArray below meth c (T y).1.cls (T y).2.1 (T y).2.2.2.1 D dA B (T y).2.2.1 (T y).2.2.2.2.2.2.1 (T y).2.2.2.2.2.2.2 Q :=
      ⟨⟨Bd.exec, Bd.bytes, hml, Bd.returns, findClass_of_methodNamed Bd.named⟩, fun w hw => hts w (List.mem_cons_of_mem _ hw), Bd.notSynchronized, hK, hB, ⟨by show 1 ≤ d + 1; omega, by show 100 ≤ 100 * (d + 1) + 100; omega, Nat.le_refl _, Nat.le_refl _⟩⟩
    have hini : decide ((T y).1.name = "<init>") = true → meth.name = "<init>" := fun q => by
      rw [(name_of_methodNamed Bd.named Bd.method).1]
      exact of_decide_eq_true q
    have g := mj_snd X (T := T) (C := mj_R T d) (full := (T y).2.2.2.2.1) (ini := decide ((T y).1.name = "<init>")) (d := d) hini ⟨Nat.le_refl _, Nat.le_refl _⟩ mj_w_arr mj_w_oi mj_w_oc mj_w_lib (fun y => mj_cm_of (hT y)) (fun y av G M Q h => mj_met hT d y av G M Q h)
      (fun i x hx => by have := mj_ca_at _ 0 i x hca hx; rw [Nat.zero_add] at this; exact this)
    have g := hrun _ g 0 rfl
    rw [hp0] at g
    rw [lg_entry_eq]
    have hl := lv_entry (av.map mj_val) (n := (T y).2.2.1) (by rw [mj_wd_eq]; exact hwd)
    exact g s.heap [] _ 0 0 hH va_S.rf ⟨by rw [mj_en_asc]; exact hl, mj_en_len av _ hwd, fun j v hj => mj_en_ok av _ j v hok hj⟩ (fun v hv => by cases hv) (by omega) (by omega)
theorem mj_ok1_mk {T : Nat → mj_T} {q : mj_T} (h1 : mj_cm q = true) (h2 : mj_ca T q.1.cls q.2.2.2.1 q.2.2.1 (decide (q.1.name = "<init>")) q.2.1 q.2.2.2.2.1 0 q.2.2.2.2.1 = true) (h3 : decide (mj_pc q.2.2.2.2.1 0 = 0) = true) : mj_ok1 T q = true := by
  unfold mj_ok1
  rw [h1, h2, h3]
  rfl
def mj_cr (q : mj_T) : Bool := decide (q.1.cls ≠ "java/lang/invoke/MethodHandle") && decide (q.1.cls ≠ "java/lang/invoke/VarHandle") && decide ((parseMethodDescriptor q.1.desc).map (fun d => d.parameters.length) = some q.2.2.2.2.2.1.2.2) && decide (plainName q.1.cls = true) && decide (q.2.2.1 ≤ 80)
theorem mj_cm0 {q : mj_T} (h1 : Cond.code q.1 q.2.1 q.2.2.1 q.2.2.2.1 ∈ mj_tb) (h2 : Cond.initialized q.1.cls ∈ mj_tb) (h3 : Cond.instanceMethod q.1 ∈ mj_tb) (h4 : Cond.selects q.1.cls q.1 q.1 ∈ mj_tb) (hk : q.2.2.2.2.2.1.1 = 0) (hr : (mj_cr q && decide (q.1.cls = mj_cls q.2.2.2.2.2.1.2.1)) = true) : mj_cm q = true := by
  unfold mj_cr at hr
  simp only [Bool.and_eq_true, decide_eq_true_eq] at hr
  obtain ⟨⟨⟨⟨⟨r1, r2⟩, r3⟩, r4⟩, r5⟩, r6⟩ := hr
  unfold mj_cm
  rw [hk]
  simp only [Bool.and_eq_true, decide_eq_true_eq]
  exact ⟨⟨⟨⟨⟨⟨⟨h1, h2⟩, r1⟩, r2⟩, r3⟩, r4⟩, r5⟩, ⟨r6, h3⟩, h4⟩
theorem mj_cm1 {q : mj_T} (h1 : Cond.code q.1 q.2.1 q.2.2.1 q.2.2.2.1 ∈ mj_tb) (h2 : Cond.initialized q.1.cls ∈ mj_tb) (h3 : Cond.static q.1 ∈ mj_tb) (hk : q.2.2.2.2.2.1.1 = 1) (hr : mj_cr q = true) : mj_cm q = true := by
  unfold mj_cr at hr
  simp only [Bool.and_eq_true, decide_eq_true_eq] at hr
  obtain ⟨⟨⟨⟨r1, r2⟩, r3⟩, r4⟩, r5⟩ := hr
  unfold mj_cm
  rw [hk]
  simp only [Bool.and_eq_true, decide_eq_true_eq]
  exact ⟨⟨⟨⟨⟨⟨⟨h1, h2⟩, r1⟩, r2⟩, r3⟩, r4⟩, r5⟩, h3⟩
theorem mj_cm2 {q : mj_T} (h1 : Cond.code q.1 q.2.1 q.2.2.1 q.2.2.2.1 ∈ mj_tb) (h2 : Cond.initialized q.1.cls ∈ mj_tb) (h3 : Cond.instanceMethod q.1 ∈ mj_tb) (hk : q.2.2.2.2.2.1.1 = 2) (hr : (mj_cr q && decide (q.1.cls = mj_cls q.2.2.2.2.2.1.2.1) && decide (q.1.name = "<init>") && decide (q.2.2.2.1 = none)) = true) : mj_cm q = true := by
  unfold mj_cr at hr
  simp only [Bool.and_eq_true, decide_eq_true_eq] at hr
  obtain ⟨⟨⟨⟨⟨⟨⟨r1, r2⟩, r3⟩, r4⟩, r5⟩, r6⟩, r7⟩, r8⟩ := hr
  unfold mj_cm
  rw [hk]
  simp only [Bool.and_eq_true, decide_eq_true_eq]
  exact ⟨⟨⟨⟨⟨⟨⟨h1, h2⟩, r1⟩, r2⟩, r3⟩, r4⟩, r5⟩, ⟨⟨r6, h3⟩, r7⟩, r8⟩
