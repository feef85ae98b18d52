/-! The reference's lines and tables as they are copied; its learning over a list of terms. -/
def hq_cpT (tx : Nat → Int32) (i j q : Nat) : Nat → Int32 := fun p => if 100 * j ≤ p ∧ p < 100 * j + q then tx (100 * i + (p - 100 * j)) else tx p
theorem hq_cpT_0 (tx : Nat → Int32) (i j : Nat) : hq_cpT tx i j 0 = tx := by
  funext p
  unfold hq_cpT
  rw [if_neg (by omega)]
theorem hq_cpT_s {tx : Nat → Int32} {i j q : Nat} (h : ¬ i = j) (hq : q < 100) : hq_cpT tx i j (q + 1) = upd (hq_cpT tx i j q) (100 * j + q) (hq_cpT tx i j q (100 * i + q)) := by
  have e : hq_cpT tx i j q (100 * i + q) = tx (100 * i + q) := by
    unfold hq_cpT
    rw [if_neg (by omega)]
  rw [e]
  funext p
  by_cases hp : p = 100 * j + q
  · rw [hp, pk_us]
    unfold hq_cpT
    rw [if_pos (by omega), show 100 * j + q - 100 * j = q by omega]
  · rw [pk_un hp]
    unfold hq_cpT
    by_cases h1 : 100 * j ≤ p ∧ p < 100 * j + q
    · rw [if_pos h1, if_pos (by omega)]
    · rw [if_neg h1, if_neg (by omega)]
def hq_cpY (tx ty : Nat → Int32) (j q : Nat) : Nat → Int32 := fun p => if 100 * j ≤ p ∧ p < 100 * j + q then ty (p - 100 * j) else tx p
theorem hq_cpY_0 (tx ty : Nat → Int32) (j : Nat) : hq_cpY tx ty j 0 = tx := by
  funext p
  unfold hq_cpY
  rw [if_neg (by omega)]
theorem hq_cpY_s {tx ty : Nat → Int32} {j q : Nat} : hq_cpY tx ty j (q + 1) = upd (hq_cpY tx ty j q) (100 * j + q) (ty q) := by
  funext p
  by_cases hp : p = 100 * j + q
  · rw [hp, pk_us]
    unfold hq_cpY
    rw [if_pos (by omega), show 100 * j + q - 100 * j = q by omega]
  · rw [pk_un hp]
    unfold hq_cpY
    by_cases h1 : 100 * j ≤ p ∧ p < 100 * j + q
    · rw [if_pos h1, if_pos (by omega)]
    · rw [if_neg h1, if_neg (by omega)]
theorem hq_cpY_at {tx ty : Nat → Int32} {j n : Nat} : ∀ q, q < n → hq_cpY tx ty j n (100 * j + q) = ty q := by
  intro q hq
  unfold hq_cpY
  rw [if_pos (by omega), show 100 * j + q - 100 * j = q by omega]
/-- 32 places from a to b -/
def hq_cpL (f : Nat → Int64) (a b q : Nat) : Nat → Int64 := fun p => if b ≤ p ∧ p < b + q then f (a + (p - b)) else f p
theorem hq_cpL_0 (f : Nat → Int64) (a b : Nat) : hq_cpL f a b 0 = f := by
  funext p
  unfold hq_cpL
  rw [if_neg (by omega)]
theorem hq_cpL_s {f : Nat → Int64} {a b q : Nat} (h : a + 32 ≤ b ∨ b + 32 ≤ a) (hq : q < 32) : hq_cpL f a b (q + 1) = vp_updL (hq_cpL f a b q) (b + q) (hq_cpL f a b q (a + q)) := by
  have e : hq_cpL f a b q (a + q) = f (a + q) := by
    unfold hq_cpL
    rw [if_neg (by omega)]
  rw [e]
  funext p
  by_cases hp : p = b + q
  · rw [hp, pk_uLs]
    unfold hq_cpL
    rw [if_pos (by omega), show b + q - b = q by omega]
  · rw [pk_uLn hp]
    unfold hq_cpL
    by_cases h1 : b ≤ p ∧ p < b + q
    · rw [if_pos h1, if_pos (by omega)]
    · rw [if_neg h1, if_neg (by omega)]
def hq_prML (wt : Nat → Int64) (n : Nat) : List (Int32 × Int32) → Int64 → Int64
  | [], v => v
  | x :: xs, v => hq_prML wt n xs (v + ((wt (hq_slot n x.1)) * (Int32.toInt64 x.2)))
def hq_prdML (wt : Nat → Int64) (n : Nat) (T : List (Int32 × Int32)) : Int64 := f_M_clip ((hq_prML wt n T 0) / 10000) 1000000
theorem hq_prM_L {wt : Nat → Int64} {n : Nat} {th tv : Nat → Int32} : ∀ (T : List (Int32 × Int32)) (k : Nat) (v : Int64), hq_hold T th tv k → hq_prM wt n th tv k T.length v = hq_prML wt n T v := by
  intro T
  induction T with
  | nil => intro k v _; rfl
  | cons x T ih =>
    intro k v h
    obtain ⟨h1, h2, h3⟩ := hq_hold_tl h
    show hq_prM wt n th tv (k + 1) T.length (v + ((wt (hq_slot n (th k))) * (Int32.toInt64 (tv k)))) = _
    rw [ih _ _ h3, h1, h2]
    rfl
theorem hq_prdM_L {wt : Nat → Int64} {n : Nat} {th tv : Nat → Int32} {T : List (Int32 × Int32)} (h : hq_hold T th tv 0) : hq_prdM wt n th tv T.length = hq_prdML wt n T := by
  rw [hq_prdM, hq_prM_L T 0 0 h, hq_prdML]
def hq_mmL (ru : Int32) (n : Nat) (g : Int64) : List (Int32 × Int32) → (Nat → Int64) × (Nat → Int64) × (Nat → Int64) → (Nat → Int64) × (Nat → Int64) × (Nat → Int64)
  | [], S => S
  | x :: xs, S => hq_mmL ru n g xs (hq_mm1 ru (hq_slot n x.1) (Int32.toInt64 x.2) ((g * (Int32.toInt64 x.2)) / 100) S)
theorem hq_mmA_L {ru : Int32} {n : Nat} {g : Int64} {th tv : Nat → Int32} : ∀ (T : List (Int32 × Int32)) (k : Nat) (S : (Nat → Int64) × (Nat → Int64) × (Nat → Int64)), hq_hold T th tv k → hq_mmA ru n th tv g k T.length S = hq_mmL ru n g T S := by
  intro T
  induction T with
  | nil => intro k S _; rfl
  | cons x T ih =>
    intro k S h
    obtain ⟨h1, h2, h3⟩ := hq_hold_tl h
    show hq_mmA ru n th tv g (k + 1) T.length (hq_mm1 ru (hq_slot n (th k)) (Int32.toInt64 (tv k)) ((g * (Int32.toInt64 (tv k))) / 100) S) = _
    rw [ih _ _ h3, h1, h2]
    rfl
def hq_lrnL (ru : Int32) (n : Nat) (kd lb : Int32) (T : List (Int32 × Int32)) : Nat → (Nat → Int64) × (Nat → Int64) × (Nat → Int64) → (Nat → Int64) × (Nat → Int64) × (Nat → Int64)
  | 0, S => S
  | m + 1, S => hq_lrnL ru n kd lb T m (hq_mmL ru n (f_M_gradient kd lb (hq_prdML S.1 n T)) T S)
theorem hq_lrn_L {ru : Int32} {n : Nat} {kd lb : Int32} {th tv : Nat → Int32} {T : List (Int32 × Int32)} (h : hq_hold T th tv 0) : ∀ m S, hq_lrn ru n kd lb th tv T.length m S = hq_lrnL ru n kd lb T m S := by
  intro m
  induction m with
  | zero => intro S; rfl
  | succ m ih =>
    intro S
    show hq_lrn ru n kd lb th tv T.length m (hq_mmA ru n th tv (f_M_gradient kd lb (hq_prdM S.1 n th tv T.length)) 0 T.length S) = _
    rw [ih, hq_prdM_L h, hq_mmA_L T 0 S h]
    rfl
