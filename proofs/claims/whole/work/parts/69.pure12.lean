/-! How many terms there can be: 12 features, three different crossings, the constant. -/
def hq_cn (fl : Nat → Int32) (c : Int32) : Nat → Nat → Nat
  | _, 0 => 0
  | i, n + 1 => (if fl i = c then 1 else 0) + hq_cn fl c (i + 1) n
def hq_tri : Nat → Nat
  | 0 => 0
  | c + 1 => (c + 1) + hq_tri c
section HQCNT
variable {fh fv fl : Nat → Int32} {k : Nat} {a b c d x : Int32}
theorem hq_one2 (h : ¬ a = b) : (if x = a then 1 else 0) + (if x = b then 1 else 0) ≤ 1 := by
  by_cases h1 : x = a
  · rw [if_pos h1, if_neg (fun h2 => h (h1.symm.trans h2))]; omega
  · rw [if_neg h1]
    by_cases h2 : x = b
    · rw [if_pos h2]; omega
    · rw [if_neg h2]; omega
theorem hq_one3 (h1 : ¬ a = b) (h2 : ¬ a = c) (h3 : ¬ b = c) : (if x = a then 1 else 0) + (if x = b then 1 else 0) + (if x = c then 1 else 0) ≤ 1 := by
  by_cases q : x = c
  · rw [if_pos q, if_neg (fun h => h2 (h.symm.trans q)), if_neg (fun h => h3 (h.symm.trans q))]; omega
  · have := hq_one2 (x := x) h1
    rw [if_neg q]; omega
theorem hq_one4 (h1 : ¬ a = b) (h2 : ¬ a = c) (h3 : ¬ a = d) (h4 : ¬ b = c) (h5 : ¬ b = d) (h6 : ¬ c = d) : (if x = a then 1 else 0) + (if x = b then 1 else 0) + (if x = c then 1 else 0) + (if x = d then 1 else 0) ≤ 1 := by
  by_cases q : x = d
  · rw [if_pos q, if_neg (fun h => h3 (h.symm.trans q)), if_neg (fun h => h5 (h.symm.trans q)), if_neg (fun h => h6 (h.symm.trans q))]; omega
  · have := hq_one3 (x := x) h1 h2 h4
    rw [if_neg q]; omega
theorem hq_cn1 (fl : Nat → Int32) (a : Int32) : ∀ n i, hq_cn fl a i n ≤ n := by
  intro n
  induction n with
  | zero => intro i; exact Nat.le_refl _
  | succ n ih =>
    intro i
    have h1 := ih (i + 1)
    show (if fl i = a then 1 else 0) + hq_cn fl a (i + 1) n ≤ n + 1
    by_cases h : fl i = a
    · rw [if_pos h]; omega
    · rw [if_neg h]; omega
theorem hq_cn2 (fl : Nat → Int32) (h : ¬ a = b) : ∀ n i, hq_cn fl a i n + hq_cn fl b i n ≤ n := by
  intro n
  induction n with
  | zero => intro i; exact Nat.le_refl _
  | succ n ih =>
    intro i
    have h1 := ih (i + 1)
    have h2 := hq_one2 (x := fl i) h
    show (if fl i = a then 1 else 0) + hq_cn fl a (i + 1) n + ((if fl i = b then 1 else 0) + hq_cn fl b (i + 1) n) ≤ n + 1
    omega
theorem hq_cn3 (fl : Nat → Int32) (h1 : ¬ a = b) (h2 : ¬ a = c) (h3 : ¬ b = c) : ∀ n i, hq_cn fl a i n + hq_cn fl b i n + hq_cn fl c i n ≤ n := by
  intro n
  induction n with
  | zero => intro i; exact Nat.le_refl _
  | succ n ih =>
    intro i
    have q1 := ih (i + 1)
    have q2 := hq_one3 (x := fl i) h1 h2 h3
    show (if fl i = a then 1 else 0) + hq_cn fl a (i + 1) n + ((if fl i = b then 1 else 0) + hq_cn fl b (i + 1) n) + ((if fl i = c then 1 else 0) + hq_cn fl c (i + 1) n) ≤ n + 1
    omega
theorem hq_cn4 (fl : Nat → Int32) (h1 : ¬ a = b) (h2 : ¬ a = c) (h3 : ¬ a = d) (h4 : ¬ b = c) (h5 : ¬ b = d) (h6 : ¬ c = d) : ∀ n i, hq_cn fl a i n + hq_cn fl b i n + hq_cn fl c i n + hq_cn fl d i n ≤ n := by
  intro n
  induction n with
  | zero => intro i; exact Nat.le_refl _
  | succ n ih =>
    intro i
    have q1 := ih (i + 1)
    have q2 := hq_one4 (x := fl i) h1 h2 h3 h4 h5 h6
    show (if fl i = a then 1 else 0) + hq_cn fl a (i + 1) n + ((if fl i = b then 1 else 0) + hq_cn fl b (i + 1) n) + ((if fl i = c then 1 else 0) + hq_cn fl c (i + 1) n) + ((if fl i = d then 1 else 0) + hq_cn fl d (i + 1) n) ≤ n + 1
    omega
theorem hq_prs_len {f : Nat} {rt : Int32} : ∀ n g, (hq_prs fh fv fl f rt g n).length = hq_cn fl rt g n := by
  intro n
  induction n with
  | zero => intro g; rfl
  | succ n ih =>
    intro g
    show _ = (if fl g = rt then 1 else 0) + hq_cn fl rt (g + 1) n
    by_cases h : fl g = rt
    · simp only [hq_prs, if_pos h, List.length_cons, ih]; omega
    · simp only [hq_prs, if_neg h, ih]; omega
theorem hq_cr_ne {lf rt : Int32} (hne : ¬ lf = rt) : ∀ n f, (hq_cr fh fv fl k lf rt f n).length = hq_cn fl lf f n * hq_cn fl rt 0 k := by
  intro n
  induction n with
  | zero => intro f; rw [show hq_cn fl lf f 0 = 0 from rfl, Nat.zero_mul]; rfl
  | succ n ih =>
    intro f
    rw [show hq_cn fl lf f (n + 1) = (if fl f = lf then 1 else 0) + hq_cn fl lf (f + 1) n from rfl, Nat.add_mul, ← ih (f + 1)]
    by_cases h : fl f = lf
    · have e : hq_prs0 fh fv fl k f rt = hq_prs fh fv fl f rt 0 (k - 0) := by
        unfold hq_prs0
        rw [if_neg (fun h2 => hne (h.symm.trans h2))]
      simp only [hq_cr, if_pos h, List.length_append, e, hq_prs_len, Nat.sub_zero, Nat.one_mul]
    · simp only [hq_cr, if_neg h, Nat.zero_mul]; omega
theorem hq_cr_tri {rt : Int32} : ∀ n f, f + n = k → (hq_cr fh fv fl k rt rt f n).length = hq_tri (hq_cn fl rt f n) := by
  intro n
  induction n with
  | zero => intro f _; rfl
  | succ n ih =>
    intro f hf
    have h1 := ih (f + 1) (by omega)
    rw [show hq_cn fl rt f (n + 1) = (if fl f = rt then 1 else 0) + hq_cn fl rt (f + 1) n from rfl]
    by_cases h : fl f = rt
    · have e : hq_prs0 fh fv fl k f rt = hq_prs fh fv fl f rt f (k - f) := by
        unfold hq_prs0
        rw [if_pos h]
      have e2 : hq_cn fl rt f (k - f) = 1 + hq_cn fl rt (f + 1) n := by
        rw [show k - f = n + 1 by omega]
        show (if fl f = rt then 1 else 0) + hq_cn fl rt (f + 1) n = _
        rw [if_pos h]
      simp only [hq_cr, if_pos h, List.length_append, e, hq_prs_len, e2, h1]
      rw [Nat.add_comm 1 (hq_cn fl rt (f + 1) n)]
      rfl
    · simp only [hq_cr, if_neg h, Nat.zero_add]; exact h1
end HQCNT
/-- the number of terms of a crossing, by the numbers of its letters -/
def hq_pl (N : Int32 → Nat) (a b : Int32) : Nat := if a = b then hq_tri (N a) else N a * N b
theorem hq_cr_len {fh fv fl : Nat → Int32} {k : Nat} (a b : Int32) : (hq_cr fh fv fl k a b 0 k).length = hq_pl (fun c => hq_cn fl c 0 k) a b := by
  unfold hq_pl
  by_cases h : a = b
  · rw [if_pos h, h]; exact hq_cr_tri k 0 (by omega)
  · rw [if_neg h]; exact hq_cr_ne h k 0
def hq_fB (x : Nat) : Nat := hq_tri x + x * (12 - x)
def hq_fM (x : Nat) : Nat := if hq_tri x ≤ x * (12 - x) then x * (12 - x) else hq_tri x
theorem hq_num1 : ∀ x, x < 13 → hq_fB x ≤ 100 ∧ hq_fM x ≤ hq_fB x := by decide +kernel
theorem hq_num2 : ∀ x, x < 13 → ∀ y, y < 13 → x + y ≤ 12 → hq_fB x + y * x ≤ 100 ∧ hq_fB x + hq_tri y ≤ 100 ∧ hq_fB x + y * (12 - x - y) ≤ 100 := by decide +kernel
theorem hq_num3 : ∀ x, x < 13 → ∀ y, y < 13 → ∀ z, z < 13 → x + y + z ≤ 12 → hq_fM x + hq_fM y + hq_fM z ≤ 100 := by decide +kernel
section HQPL
variable {N : Int32 → Nat} {a b c d a' b' : Int32}
theorem hq_pl1 (h2 : ∀ a b, ¬ a = b → N a + N b ≤ 12) : hq_pl N a b ≤ hq_fM (N a) := by
  unfold hq_pl hq_fM
  by_cases h : a = b
  · rw [if_pos h]
    by_cases q : hq_tri (N a) ≤ N a * (12 - N a)
    · rw [if_pos q]; exact q
    · rw [if_neg q]; exact Nat.le_refl _
  · rw [if_neg h]
    have q1 : N a * N b ≤ N a * (12 - N a) := Nat.mul_le_mul_left _ (by have := h2 a b h; omega)
    by_cases q : hq_tri (N a) ≤ N a * (12 - N a)
    · rw [if_pos q]; exact q1
    · rw [if_neg q]; omega
theorem hq_pl2 (h2 : ∀ a b, ¬ a = b → N a + N b ≤ 12) (h3 : ∀ a b c, ¬ a = b → ¬ a = c → ¬ b = c → N a + N b + N c ≤ 12) (hne : ¬ b = c) : hq_pl N a b + hq_pl N a c ≤ hq_fB (N a) := by
  unfold hq_pl hq_fB
  by_cases q : a = b
  · have q2 : ¬ a = c := fun h => hne (q.symm.trans h)
    rw [if_pos q, if_neg q2]
    have := Nat.mul_le_mul_left (N a) (show N c ≤ 12 - N a by have := h2 a c q2; omega)
    omega
  · rw [if_neg q]
    by_cases q2 : a = c
    · rw [if_pos q2]
      have := Nat.mul_le_mul_left (N a) (show N b ≤ 12 - N a by have := h2 a b q; omega)
      omega
    · rw [if_neg q2, ← Nat.mul_add]
      have := Nat.mul_le_mul_left (N a) (show N b + N c ≤ 12 - N a by have := h3 a b c q q2 hne; omega)
      omega
theorem hq_pl3 (h3 : ∀ a b c, ¬ a = b → ¬ a = c → ¬ b = c → N a + N b + N c ≤ 12) (h4 : ∀ a b c d, ¬ a = b → ¬ a = c → ¬ a = d → ¬ b = c → ¬ b = d → ¬ c = d → N a + N b + N c + N d ≤ 12) (n1 : ¬ b = c) (n2 : ¬ b = d) (n3 : ¬ c = d) : hq_pl N a b + hq_pl N a c + hq_pl N a d ≤ hq_fB (N a) := by
  unfold hq_pl hq_fB
  by_cases q : a = b
  · have q2 : ¬ a = c := fun h => n1 (q.symm.trans h)
    have q3 : ¬ a = d := fun h => n2 (q.symm.trans h)
    rw [if_pos q, if_neg q2, if_neg q3]
    have := Nat.mul_le_mul_left (N a) (show N c + N d ≤ 12 - N a by have := h3 a c d q2 q3 n3; omega)
    rw [Nat.mul_add] at this
    omega
  · rw [if_neg q]
    by_cases q2 : a = c
    · have q3 : ¬ a = d := fun h => n3 (q2.symm.trans h)
      rw [if_pos q2, if_neg q3]
      have := Nat.mul_le_mul_left (N a) (show N b + N d ≤ 12 - N a by have := h3 a b d q q3 n2; omega)
      rw [Nat.mul_add] at this
      omega
    · rw [if_neg q2]
      by_cases q3 : a = d
      · rw [if_pos q3]
        have := Nat.mul_le_mul_left (N a) (show N b + N c ≤ 12 - N a by have := h3 a b c q q2 n1; omega)
        rw [Nat.mul_add] at this
        omega
      · rw [if_neg q3]
        have := Nat.mul_le_mul_left (N a) (show N b + N c + N d ≤ 12 - N a by have := h4 a b c d q q2 q3 n1 n2 n3; omega)
        rw [Nat.mul_add, Nat.mul_add] at this
        omega
/-- two with one left letter, and another -/
theorem hq_pl21 (h1 : ∀ a, N a ≤ 12) (h2 : ∀ a b, ¬ a = b → N a + N b ≤ 12) (h3 : ∀ a b c, ¬ a = b → ¬ a = c → ¬ b = c → N a + N b + N c ≤ 12) (hne : ¬ b = c) (ha : ¬ a = a') : hq_pl N a b + hq_pl N a c + hq_pl N a' b' ≤ 100 := by
  have hB := hq_pl2 (a := a) h2 h3 hne
  have hs := h2 a a' ha
  obtain ⟨e1, e2, e3⟩ := hq_num2 (N a) (by have := h1 a; omega) (N a') (by have := h1 a'; omega) hs
  have hT : hq_pl N a' b' = hq_tri (N a') ∨ hq_pl N a' b' = N a' * N a ∨ hq_pl N a' b' ≤ N a' * (12 - N a - N a') := by
    unfold hq_pl
    by_cases q : a' = b'
    · rw [if_pos q]; exact Or.inl rfl
    · rw [if_neg q]
      by_cases q2 : b' = a
      · rw [q2]; exact Or.inr (Or.inl rfl)
      · exact Or.inr (Or.inr (Nat.mul_le_mul_left _ (by have := h3 a a' b' ha (fun h => q2 h.symm) q; omega)))
  rcases hT with h | h | h <;> omega
theorem hq_pl111 (h1 : ∀ a, N a ≤ 12) (h2 : ∀ a b, ¬ a = b → N a + N b ≤ 12) (h3 : ∀ a b c, ¬ a = b → ¬ a = c → ¬ b = c → N a + N b + N c ≤ 12) {e f g a b c : Int32} (q1 : ¬ a = b) (q2 : ¬ a = c) (q3 : ¬ b = c) : hq_pl N a e + hq_pl N b f + hq_pl N c g ≤ 100 := by
  have e1 := hq_pl1 (a := a) (b := e) h2
  have e2 := hq_pl1 (a := b) (b := f) h2
  have e3 := hq_pl1 (a := c) (b := g) h2
  have e4 := hq_num3 (N a) (by have := h1 a; omega) (N b) (by have := h1 b; omega) (N c) (by have := h1 c; omega) (h3 a b c q1 q2 q3)
  omega
end HQPL
/-- the crossings are different -/
def hq_dist (cl cr : Nat → Int32) (nc : Nat) : Prop := ∀ i j, i < j → j < nc → ¬ (cl i = cl j ∧ cr i = cr j)
theorem hq_pl_all {N : Int32 → Nat} (h1 : ∀ a, N a ≤ 12) (h2 : ∀ a b, ¬ a = b → N a + N b ≤ 12) (h3 : ∀ a b c, ¬ a = b → ¬ a = c → ¬ b = c → N a + N b + N c ≤ 12) (h4 : ∀ a b c d, ¬ a = b → ¬ a = c → ¬ a = d → ¬ b = c → ¬ b = d → ¬ c = d → N a + N b + N c + N d ≤ 12)
    {l0 l1 l2 r0 r1 r2 : Int32} (d01 : ¬ (l0 = l1 ∧ r0 = r1)) (d02 : ¬ (l0 = l2 ∧ r0 = r2)) (d12 : ¬ (l1 = l2 ∧ r1 = r2)) : hq_pl N l0 r0 + hq_pl N l1 r1 + hq_pl N l2 r2 ≤ 100 := by
  by_cases q01 : l0 = l1
  · have n01 : ¬ r0 = r1 := fun h => d01 ⟨q01, h⟩
    by_cases q02 : l0 = l2
    · have n02 : ¬ r0 = r2 := fun h => d02 ⟨q02, h⟩
      have n12 : ¬ r1 = r2 := fun h => d12 ⟨q01.symm.trans q02, h⟩
      rw [← q01, ← q02]
      have := hq_pl3 (a := l0) h3 h4 n01 n02 n12
      have e := (hq_num1 (N l0) (by have := h1 l0; omega)).1
      omega
    · rw [← q01]
      exact hq_pl21 h1 h2 h3 n01 q02
  · by_cases q02 : l0 = l2
    · have n02 : ¬ r0 = r2 := fun h => d02 ⟨q02, h⟩
      rw [← q02]
      have := hq_pl21 (a := l0) (b := r0) (c := r2) (a' := l1) (b' := r1) h1 h2 h3 n02 q01
      omega
    · by_cases q12 : l1 = l2
      · have n12 : ¬ r1 = r2 := fun h => d12 ⟨q12, h⟩
        rw [← q12]
        have := hq_pl21 (a := l1) (b := r1) (c := r2) (a' := l0) (b' := r0) h1 h2 h3 n12 (fun h => q01 h.symm)
        omega
      · exact hq_pl111 h1 h2 h3 q01 q02 q12
theorem hq_fs_len {fh fv : Nat → Int32} : ∀ n f, (hq_fs fh fv f n).length = n := by
  intro n
  induction n with
  | zero => intro f; rfl
  | succ n ih => intro f; simp only [hq_fs, List.length_cons, ih]
theorem hq_tms_len {fh fv fl cl cr : Nat → Int32} {k nc : Nat} (hk : k ≤ 12) (hnc : nc ≤ 3) (hd : hq_dist cl cr nc) : (hq_tms fh fv fl k cl cr nc).length ≤ 113 := by
  have e : (hq_tms fh fv fl k cl cr nc).length = k + (hq_crs fh fv fl k cl cr 0 nc).length + 1 := by
    unfold hq_tms
    rw [List.length_append, List.length_append, hq_fs_len]
    rfl
  obtain ⟨N, eN⟩ : ∃ N : Int32 → Nat, (fun c => hq_cn fl c 0 k) = N := ⟨_, rfl⟩
  have hN : ∀ c, hq_cn fl c 0 k = N c := fun c => congrFun eN c
  have h1 : ∀ a, N a ≤ 12 := fun a => by rw [← hN]; exact Nat.le_trans (hq_cn1 fl a k 0) hk
  have h2 : ∀ a b, ¬ a = b → N a + N b ≤ 12 := fun a b h => by rw [← hN, ← hN]; exact Nat.le_trans (hq_cn2 fl h k 0) hk
  have h3 : ∀ a b c, ¬ a = b → ¬ a = c → ¬ b = c → N a + N b + N c ≤ 12 := fun a b c q1 q2 q3 => by rw [← hN, ← hN, ← hN]; exact Nat.le_trans (hq_cn3 fl q1 q2 q3 k 0) hk
  have h4 : ∀ a b c d, ¬ a = b → ¬ a = c → ¬ a = d → ¬ b = c → ¬ b = d → ¬ c = d → N a + N b + N c + N d ≤ 12 := fun a b c d q1 q2 q3 q4 q5 q6 => by rw [← hN, ← hN, ← hN, ← hN]; exact Nat.le_trans (hq_cn4 fl q1 q2 q3 q4 q5 q6 k 0) hk
  have key : (hq_crs fh fv fl k cl cr 0 nc).length ≤ 100 := by
    rcases (show nc = 0 ∨ nc = 1 ∨ nc = 2 ∨ nc = 3 by omega) with rfl | rfl | rfl | rfl
    · exact Nat.zero_le _
    · simp only [hq_crs, List.length_append, List.length_nil, hq_cr_len, eN]
      have a1 := hq_pl1 (a := cl 0) (b := cr 0) h2
      have a2 := hq_num1 _ (Nat.lt_succ_of_le (h1 (cl 0)))
      omega
    · simp only [hq_crs, List.length_append, List.length_nil, hq_cr_len, eN, Nat.zero_add, Nat.reduceAdd]
      by_cases q : cl 0 = cl 1
      · have a1 := hq_pl2 (a := cl 0) h2 h3 (fun h => hd 0 1 (by omega) (by omega) ⟨q, h⟩)
        have a2 := hq_num1 _ (Nat.lt_succ_of_le (h1 (cl 0)))
        rw [← q]
        omega
      · have a1 := hq_pl1 (a := cl 0) (b := cr 0) h2
        have a2 := hq_pl1 (a := cl 1) (b := cr 1) h2
        have a3 := hq_num3 _ (Nat.lt_succ_of_le (h1 (cl 0))) _ (Nat.lt_succ_of_le (h1 (cl 1))) 0 (by omega) (by have := h2 _ _ q; omega)
        omega
    · simp only [hq_crs, List.length_append, List.length_nil, hq_cr_len, eN, Nat.zero_add, Nat.reduceAdd]
      have a1 := hq_pl_all h1 h2 h3 h4 (hd 0 1 (by omega) (by omega)) (hd 0 2 (by omega) (by omega)) (hd 1 2 (by omega) (by omega))
      omega
  omega
