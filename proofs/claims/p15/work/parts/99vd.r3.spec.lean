/-! ===== a pure reader of tokens ===== -/
def rv_le (v : Int) : Bool := decide (97 ≤ v ∧ v ≤ 122)
def rv_di (v : Int) : Bool := decide (48 ≤ v ∧ v ≤ 57)
def rv_an (v : Int) : Bool := rv_le v || rv_di v
/-- blanks are skipped from p on, up to e; f of them at most -/
def rv_sk (B : Nat → Int) (e : Nat) : Nat → Nat → Nat
  | 0, p => p
  | f + 1, p => if p < e ∧ (B p = 32 ∨ B p = 10) then rv_sk B e f (p + 1) else p
/-- the end of a run of letters and digits from p on, up to e -/
def rv_rn (B : Nat → Int) (e : Nat) : Nat → Nat → Nat
  | 0, p => p
  | f + 1, p => if p < e ∧ rv_an (B p) = true then rv_rn B e f (p + 1) else p
/-- of the first k bytes from p on: how many are letters; the number; the codes -/
def rv_nl (B : Nat → Int) (p : Nat) : Nat → Nat
  | 0 => 0
  | k + 1 => rv_nl B p k + (if rv_le (B (p + k)) = true then 1 else 0)
def rv_nu (B : Nat → Int) (p : Nat) : Nat → Int
  | 0 => 0
  | k + 1 => 10 * rv_nu B p k + B (p + k) - 48
def rv_c5 (B : Nat → Int) (p : Nat) : Nat → Int64
  | 0 => 0
  | k + 1 => rv_c5 B p k <<< ((Int32.ofInt 5).toInt64 &&& 63) ||| (Int32.ofInt (B (p + k) - 96)).toInt64
def rv_w8 (B : Nat → Int) (p : Nat) : Nat → Int64
  | 0 => 0
  | k + 1 => rv_w8 B p k <<< ((Int32.ofInt 8).toInt64 &&& 63) ||| (Int32.ofInt (B (p + k))).toInt64
/-- the token from p on: its kind (0 the end, 1 a word, 2 a number, 3 a sign, 4 a bad run, 5 the most bytes are over), where, its length, what is behind it -/
def rv_tk (B : Nat → Int) (size lim p : Nat) : Nat × Nat × Nat × Nat :=
  let e := min size lim
  let q := rv_sk B e (e - p) p
  if e ≤ q then (if size ≤ lim then 0 else 5, e, 0, q)
  else if rv_an (B q) = true then
    let r := rv_rn B size (size - q) q
    (if rv_nl B q (r - q) = r - q ∧ r - q ≤ 8 then 1 else if rv_nl B q (r - q) = 0 ∧ r - q ≤ 3 then 2 else 4, q, r - q, r)
  else (3, q, 1, q + 1)
theorem rv_sk_ge (B : Nat → Int) (e : Nat) : ∀ f p, p ≤ rv_sk B e f p
  | 0, p => Nat.le_refl p
  | f + 1, p => by
    unfold rv_sk
    split
    · exact Nat.le_trans (Nat.le_succ p) (rv_sk_ge B e f (p + 1))
    · exact Nat.le_refl p
theorem rv_sk_le (B : Nat → Int) (e : Nat) : ∀ f p, p ≤ e → rv_sk B e f p ≤ e
  | 0, p, h => h
  | f + 1, p, h => by
    unfold rv_sk
    split
    · rename_i c
      exact rv_sk_le B e f (p + 1) c.1
    · exact h
theorem rv_rn_ge (B : Nat → Int) (e : Nat) : ∀ f p, p ≤ rv_rn B e f p
  | 0, p => Nat.le_refl p
  | f + 1, p => by
    unfold rv_rn
    split
    · exact Nat.le_trans (Nat.le_succ p) (rv_rn_ge B e f (p + 1))
    · exact Nat.le_refl p
theorem rv_rn_le (B : Nat → Int) (e : Nat) : ∀ f p, p ≤ e → rv_rn B e f p ≤ e
  | 0, p, h => h
  | f + 1, p, h => by
    unfold rv_rn
    split
    · rename_i c
      exact rv_rn_le B e f (p + 1) c.1
    · exact h
theorem rv_nl_le (B : Nat → Int) (p : Nat) : ∀ k, rv_nl B p k ≤ k
  | 0 => Nat.le_refl 0
  | k + 1 => by
    unfold rv_nl
    have := rv_nl_le B p k
    split <;> omega
/-- a byte's bounds -/
theorem rv_u8_in (b : Int) : 0 ≤ rv_u8 b ∧ rv_u8 b ≤ 255 := sx_and_in (Int32.ofInt b) 255 (by decide) (by decide)
