/-! A namespace, as the reference reads it. -/
theorem hq_skp_at (t : Nat → Int32) (c : Int32) : ∀ n i, hq_skp t c i n < i + n → ¬ t (hq_skp t c i n) = c := by
  intro n
  induction n with
  | zero => intro i h; exact absurd h (by simp only [hq_skp]; omega)
  | succ n ih =>
    intro i h
    by_cases hc : t i = c
    · have e : hq_skp t c i (n + 1) = hq_skp t c (i + 1) n := by simp only [hq_skp, if_pos hc]
      rw [e] at h ⊢
      exact ih (i + 1) (by omega)
    · have e : hq_skp t c i (n + 1) = i := by simp only [hq_skp, if_neg hc]
      rw [e]
      exact hc
theorem hq_fnd_gt {t : Nat → Int32} {c : Int32} {p j : Nat} (h : ¬ t p = c) (hp : p < j) : p < hq_fnd t c p (j - p) := by
  rw [hq_fnd_no hp h]
  have := hq_fnd_le t c (j - (p + 1)) (p + 1)
  omega
theorem hq_nE_ok {t : Nat → Int32} {i j : Nat} (hi : i ≤ j) (hj : j < 2 ^ 31) : f_Line_readPart t i j = true ↔ ¬ f_M_nameEnd t i j < 0 := by
  have hl := hq_fnd_le t 58 (j - i) i
  have hng : (-1 : Int32) < 0 := by decide
  have hpos : ¬ nI (hq_fnd t 58 i (j - i)) < 0 := nI_pos (by omega)
  unfold f_Line_readPart f_M_nameEnd
  generalize hq_fnd t 58 i (j - i) = p at *
  by_cases h1 : p = i
  · rw [if_pos h1]
    have h2 : p ≤ i := by omega
    constructor
    · intro h9
      by_cases h3 : j ≤ p
      · rw [if_pos h3, if_pos h2] at h9; cases h9
      · rw [if_neg h3, if_pos h2] at h9; cases h9
    · intro h9; exact absurd hng h9
  · rw [if_neg h1]
    have h2 : ¬ p ≤ i := by omega
    by_cases h3 : j ≤ p
    · rw [if_pos h3, if_neg h2, if_pos h3]
      exact ⟨fun _ => hpos, fun _ => rfl⟩
    · rw [if_neg h3, if_neg h2, if_neg h3]
      by_cases h4 : hq_nuM t (p + 1) j = 1000000
      · rw [if_pos h4, if_pos ((hq_numC_bad (by omega)).mpr h4)]
        exact ⟨fun h9 => (by cases h9), fun h9 => absurd hng h9⟩
      · rw [if_neg h4, if_neg (fun h9 => h4 ((hq_numC_bad (by omega)).mp h9))]
        exact ⟨fun _ => hpos, fun _ => rfl⟩
theorem hq_nE_nI {t : Nat → Int32} {i j : Nat} (h : ¬ f_M_nameEnd t i j < 0) : f_M_nameEnd t i j = nI (hq_fnd t 58 i (j - i)) := by
  have hng : (-1 : Int32) < 0 := by decide
  unfold f_M_nameEnd at h ⊢
  by_cases h1 : hq_fnd t 58 i (j - i) = i
  · rw [if_pos h1] at h; exact absurd hng h
  · rw [if_neg h1] at h ⊢
    by_cases h3 : j ≤ hq_fnd t 58 i (j - i)
    · rw [if_pos h3]
    · rw [if_neg h3] at h ⊢
      by_cases h4 : hq_nuM t (hq_fnd t 58 i (j - i) + 1) j = 1000000
      · rw [if_pos h4] at h; exact absurd hng h
      · rw [if_neg h4]
theorem hq_nE_lt {t : Nat → Int32} {i j : Nat} (h : ¬ f_M_nameEnd t i j < 0) : i < hq_fnd t 58 i (j - i) := by
  have hng : (-1 : Int32) < 0 := by decide
  have hl := hq_fnd_le t 58 (j - i) i
  unfold f_M_nameEnd at h
  by_cases h1 : hq_fnd t 58 i (j - i) = i
  · rw [if_pos h1] at h; exact absurd hng h
  · omega
theorem hq_nE_am {t : Nat → Int32} {i j : Nat} (hi : i ≤ j) (h : ¬ f_M_nameEnd t i j < 0) : f_M_amount t i j = f_Line_readPart_o2 t i j := by
  have hng : (-1 : Int32) < 0 := by decide
  have hl := hq_fnd_le t 58 (j - i) i
  unfold f_M_nameEnd at h
  unfold f_M_amount f_Line_readPart_o2
  by_cases h3 : j ≤ hq_fnd t 58 i (j - i)
  · rw [if_pos h3, if_pos h3]
  · rw [if_neg h3, if_neg h3]
    by_cases h1 : hq_fnd t 58 i (j - i) = i
    · rw [if_pos h1] at h; exact absurd hng h
    · rw [if_neg h1, if_neg h3] at h
      by_cases h4 : hq_nuM t (hq_fnd t 58 i (j - i) + 1) j = 1000000
      · rw [if_pos h4] at h; exact absurd hng h
      · exact hq_numC_ok (by omega) h4
/-- where the reading of a namespace stands -/
def hq_nsI (t : Nat → Int32) (i j : Nat) (Lf : List (Int32 × Int32 × Int32)) (fst : Bool) (sd sg sc : Int32) (p : Nat) (L1 : List (Int32 × Int32 × Int32)) : Prop :=
  if fst = true then L1 = Lf ∧ p = i ∧ i < j ∧ ¬ t i = 32 else Lf.length ≤ L1.length ∧ hq_nsp t i j Lf = hq_fts t sg sd sc j (12 - (L1.length - Lf.length)) p L1
section HQM3
variable {t : Nat → Int32} {i j p k : Nat} {Lf L1 : List (Int32 × Int32 × Int32)} {fst : Bool} {sd sg sc : Int32} {fh fv fl : Nat → Int32}
theorem hq_nsI_un (h : hq_fnd t 32 i (j - i) = i) : hq_nsI t i j Lf false 0 32 100 (hq_skp t 32 i (j - i)) Lf := by
  refine ⟨Nat.le_refl _, ?_⟩
  rw [Nat.sub_self]
  unfold hq_nsp hq_ttl
  rw [h, if_pos rfl]
  rfl
theorem hq_nsI_un1 (h : j ≤ i) (hi : i ≤ j) : hq_nsI t i j Lf false 0 32 100 (hq_skp t 32 i (j - i)) Lf := hq_nsI_un (hq_fnd_end (by omega))
theorem hq_nsI_un2 (h : ¬ j ≤ i) (hc : t i = 32) : hq_nsI t i j Lf false 0 32 100 (hq_skp t 32 i (j - i)) Lf := hq_nsI_un (hq_fnd_yes (by omega) hc)
theorem hq_nsI_t (h : ¬ j ≤ i) (hc : ¬ t i = 32) : hq_nsI t i j Lf true 0 32 100 (hq_skp t 32 i (j - i)) Lf := ⟨rfl, hq_skp_no (by omega) hc, by omega, hc⟩
theorem hq_fts_no (n : Nat) (hp : p < j) (h : ¬ f_Line_readPart t p (hq_fnd t 32 p (j - p)) = true) : hq_fts t sg sd sc j n p L1 = none := by
  cases n with
  | zero => simp only [hq_fts]; rw [if_neg (by omega)]
  | succ n => simp only [hq_fts]; rw [if_neg (by omega), if_neg h]
theorem hq_nsI_bad (hF : hq_nsI t i j Lf fst sd sg sc p L1) (hp : p < j) (hj : j < 2 ^ 31) (h : f_M_nameEnd t p (hq_fnd t 32 p (j - p)) < 0) : hq_nsp t i j Lf = none := by
  have hl := hq_fnd_le t 32 (j - p) p
  have hr : ¬ f_Line_readPart t p (hq_fnd t 32 p (j - p)) = true := fun h9 => (hq_nE_ok (by omega) (by omega)).mp h9 h
  unfold hq_nsI at hF
  cases fst
  · rw [if_neg (by decide)] at hF
    rw [hF.2]
    exact hq_fts_no _ hp hr
  · rw [if_pos rfl] at hF
    obtain ⟨_, rfl, h1, h2⟩ := hF
    have h3 := hq_fnd_gt (c := 32) h2 h1
    unfold hq_nsp hq_ttl
    rw [if_neg (by omega), if_neg hr]
    rfl
theorem hq_nsI_full (hF : hq_nsI t i j Lf fst sd sg sc p L1) (hr : hq_rep L1 fh fv fl k) (hp : p < j) (hf : ¬ fst = true) (hk : ¬ k < 12) : hq_nsp t i j Lf = none := by
  unfold hq_nsI at hF
  rw [if_neg hf] at hF
  rw [hF.2]
  cases 12 - (L1.length - Lf.length) with
  | zero => simp only [hq_fts]; rw [if_neg (by omega)]
  | succ n =>
    simp only [hq_fts]
    rw [if_neg (by omega)]
    by_cases h : f_Line_readPart t p (hq_fnd t 32 p (j - p)) = true
    · rw [if_pos h, if_neg (by rw [hr.1]; exact hk)]
    · rw [if_neg h]
theorem hq_nsI_done (hF : hq_nsI t i j Lf fst sd sg sc p L1) (h : j ≤ p) (hp : p ≤ j) : hq_nsp t i j Lf = some L1 := by
  unfold hq_nsI at hF
  cases fst
  · rw [if_neg (by decide)] at hF
    rw [hF.2]
    have e : p = j := by omega
    cases 12 - (L1.length - Lf.length) with
    | zero => simp only [hq_fts]; rw [if_pos e]
    | succ n => simp only [hq_fts]; rw [if_pos h, if_pos e]
  · rw [if_pos rfl] at hF
    omega
theorem hq_nsI_title (hF : hq_nsI t i j Lf fst sd sg sc p L1) (hf : fst = true) (hj : j < 2 ^ 31) (h : ¬ f_M_nameEnd t p (hq_fnd t 32 p (j - p)) < 0) : hq_nsI t i j Lf false (hq_hash t p (hq_fnd t 58 p (hq_fnd t 32 p (j - p) - p)) 0) (t p) (f_M_amount t p (hq_fnd t 32 p (j - p))) (hq_skp t 32 (hq_fnd t 32 p (j - p)) (j - hq_fnd t 32 p (j - p))) L1 := by
  unfold hq_nsI at hF
  rw [if_pos hf] at hF
  obtain ⟨rfl, rfl, h1, h2⟩ := hF
  have hl := hq_fnd_le t 32 (j - p) p
  have hr := (hq_nE_ok (by omega) (by omega)).mpr h
  have h3 := hq_fnd_gt (c := 32) h2 h1
  refine ⟨Nat.le_refl _, ?_⟩
  rw [Nat.sub_self, hq_nE_am (by omega) h]
  unfold hq_nsp hq_ttl
  rw [if_neg (by omega), if_pos hr]
  rfl
theorem hq_nsI_next (hF : hq_nsI t i j Lf fst sd sg sc p L1) (hr1 : hq_rep L1 fh fv fl k) (hf : ¬ fst = true) (hk : k < 12) (hp : p < j) (hj : j < 2 ^ 31) (h : ¬ f_M_nameEnd t p (hq_fnd t 32 p (j - p)) < 0) : hq_nsI t i j Lf false sd sg sc (hq_skp t 32 (hq_fnd t 32 p (j - p)) (j - hq_fnd t 32 p (j - p))) (L1 ++ [hq_fx t sg sd sc p (hq_fnd t 32 p (j - p))]) := by
  unfold hq_nsI at hF
  rw [if_neg hf] at hF
  have hl := hq_fnd_le t 32 (j - p) p
  have hr := (hq_nE_ok (by omega) (by omega)).mpr h
  obtain ⟨h1, h2⟩ := hF
  have hk1 := hr1.1
  refine ⟨by rw [List.length_append]; omega, ?_⟩
  rw [h2, List.length_append, List.length_singleton, show 12 - (L1.length - Lf.length) = 12 - (L1.length + 1 - Lf.length) + 1 by omega]
  simp only [hq_fts]
  rw [if_neg (by omega), if_pos hr, if_pos (by omega)]
theorem hq_rep_fx (hr1 : hq_rep L1 fh fv fl k) (hj : p ≤ j) (h : ¬ f_M_nameEnd t p j < 0) : hq_rep (L1 ++ [hq_fx t sg sd sc p j]) (upd fh k (hq_hash t p (hq_fnd t 58 p (j - p)) sd)) (upd fv k (Int64.toInt32 (f_M_clip (((Int32.toInt64 (f_M_amount t p j)) * (Int32.toInt64 sc)) / 100) 99999))) (upd fl k sg) (k + 1) := by
  rw [hq_nE_am hj h, hq_clipM]
  exact hq_rep_snoc hr1
end HQM3
