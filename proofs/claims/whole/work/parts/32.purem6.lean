/-! A line, as the reference parses it. -/
theorem hq_fnd_o {tx t : Nat → Int32} {o len : Nat} (hag : ∀ q, q < len → tx (o + q) = t q) (c : Int32) : hq_fnd tx c o (o + len - o) = o + hq_fnd t c 0 (len - 0) := by
  rw [show o + len - o = len - 0 by omega]
  exact hq_fnd_sh hag c _ 0 (by omega)
theorem hq_fnd_b {tx t : Nat → Int32} {o len b : Nat} (hag : ∀ q, q < len → tx (o + q) = t q) (c : Int32) (hb : b < len) : hq_fnd tx c (o + b + 1) (o + len - (o + b + 1)) = o + hq_fnd t c (b + 1) (len - (b + 1)) := by
  rw [show o + len - (o + b + 1) = len - (b + 1) by omega]
  exact hq_fnd_sh hag c _ (b + 1) (by omega)
def hq_paI (t : Nat → Int32) (len : Nat) (gd : Bool) (b n : Nat) (lb wo : Int32) (fh fv fl : Nat → Int32) (k : Nat) (L : List (Int32 × Int32 × Int32)) : Prop :=
  if gd = true then (lb = (if f_Line_readHead_o1 t (hq_fnd t 124 0 (len - 0)) = true then f_Line_readHead_o2 t (hq_fnd t 124 0 (len - 0)) else 1000000) ∧ wo = f_Line_readHead_o3 t (hq_fnd t 124 0 (len - 0)) ∧ hq_rep L fh fv fl k ∧ n ≤ 4 ∧ (n = 0 → b < len) ∧
    hq_par t len = if n = 0 ∧ len ≤ b then none else (hq_nss t len (4 - n) b L).map (fun L => (f_Line_readHead_o1 t (hq_fnd t 124 0 (len - 0)), f_Line_readHead_o2 t (hq_fnd t 124 0 (len - 0)), f_Line_readHead_o3 t (hq_fnd t 124 0 (len - 0)), L)))
  else hq_par t len = none
section HQM6
variable {tx t : Nat → Int32} {o len b n k : Nat} {gd : Bool} {lb wo : Int32} {fh fv fl : Nat → Int32} {L L' : List (Int32 × Int32 × Int32)}
theorem hq_paI_a (h : o + len ≤ o + hq_fnd t 124 0 (len - 0)) : hq_paI t len false b n lb wo fh fv fl k L := by
  show hq_par t len = none
  rw [hq_par]
  by_cases h1 : f_Line_readHead t (hq_fnd t 124 0 (len - 0)) = true
  · rw [if_pos h1, if_pos (by omega)]
  · rw [if_neg h1]
theorem hq_paI_b (hag : ∀ q, q < len → tx (o + q) = t q) (ht : ∀ q, q < len → hq_ch (t q)) (h : ¬ f_M_head tx o (o + hq_fnd t 124 0 (len - 0)) = true) : hq_paI t len false b n lb wo fh fv fl k L := by
  have hl := hq_fnd_le t 124 (len - 0) 0
  rw [(hq_head_eq hag ht (by omega)).1] at h
  show hq_par t len = none
  rw [hq_par, if_neg h]
theorem hq_paI_c (hag : ∀ q, q < len → tx (o + q) = t q) (ht : ∀ q, q < len → hq_ch (t q)) (hb : ¬ o + len ≤ o + hq_fnd t 124 0 (len - 0)) (h : f_M_head tx o (o + hq_fnd t 124 0 (len - 0)) = true) : hq_paI t len true (hq_fnd t 124 0 (len - 0)) 0 (f_M_head_o1 tx o (o + hq_fnd t 124 0 (len - 0))) (f_M_head_o2 tx o (o + hq_fnd t 124 0 (len - 0))) fh fv fl 0 [] := by
  have hl := hq_fnd_le t 124 (len - 0) 0
  obtain ⟨e1, e2⟩ := hq_head_eq (o := o) (b := hq_fnd t 124 0 (len - 0)) hag ht (by omega)
  rw [e1] at h
  obtain ⟨e3, e4⟩ := e2 h
  exact ⟨e3, e4, hq_rep_0 _ _ _, by omega, fun _ => by omega, hq_par_go h⟩
theorem hq_paI_no (hF : hq_paI t len gd b n lb wo fh fv fl k L) (h : ¬ gd = true) : hq_par t len = none ∧ gd = false := by
  unfold hq_paI at hF
  rw [if_neg h] at hF
  exact ⟨hF, by revert h; cases gd <;> simp⟩
theorem hq_paI_end (hF : hq_paI t len gd b n lb wo fh fv fl k L) (h : gd = true) (hb : o + len ≤ o + b) (hbl : b ≤ len) : ∃ R, hq_par t len = some R ∧ lb = (if R.1 = true then R.2.1 else 1000000) ∧ wo = R.2.2.1 ∧ hq_rep R.2.2.2 fh fv fl k := by
  unfold hq_paI at hF
  rw [if_pos h] at hF
  obtain ⟨h1, h2, h3, h4, h5, h6⟩ := hF
  have hn : ¬ n ≤ 0 := fun h9 => by have := h5 (by omega); omega
  rw [hq_par_end hn (Or.inr (by omega)), if_pos (show b = len by omega)] at h6
  exact ⟨_, h6, h1, h2, h3⟩
theorem hq_paI_many (hF : hq_paI t len gd b n lb wo fh fv fl k L) (h : gd = true) (hb : ¬ o + len ≤ o + b) (hn : 4 < n + 1) {b' n' k' : Nat} {lb' wo' : Int32} {fh' fv' fl' : Nat → Int32} {L' : List (Int32 × Int32 × Int32)} : hq_paI t len false b' n' lb' wo' fh' fv' fl' k' L' := by
  unfold hq_paI at hF
  rw [if_pos h] at hF
  obtain ⟨h1, h2, h3, h4, h5, h6⟩ := hF
  show hq_par t len = none
  rw [h6, hq_par_end (show ¬ n ≤ 0 by omega) (Or.inl (by omega)), if_neg (show ¬ b = len by omega)]
  rfl
theorem hq_paI_rep (hF : hq_paI t len gd b n lb wo fh fv fl k L) (h : gd = true) : hq_rep L fh fv fl k := by
  unfold hq_paI at hF
  rw [if_pos h] at hF
  exact hF.2.2.1
theorem hq_paI_bad (hF : hq_paI t len gd b n lb wo fh fv fl k L) (h : gd = true) (hb : ¬ o + len ≤ o + b) (hn : ¬ 4 < n + 1) (hs : ¬ (hq_nsp t (b + 1) (hq_fnd t 124 (b + 1) (len - (b + 1))) L).isSome = true) {b' n' k' : Nat} {lb' wo' : Int32} {fh' fv' fl' : Nat → Int32} {L' : List (Int32 × Int32 × Int32)} : hq_paI t len false b' n' lb' wo' fh' fv' fl' k' L' := by
  unfold hq_paI at hF
  rw [if_pos h] at hF
  obtain ⟨h1, h2, h3, h4, h5, h6⟩ := hF
  show hq_par t len = none
  rw [h6, hq_par_bad (show ¬ 4 ≤ n by omega) (show ¬ len ≤ b by omega) hs]
theorem hq_paI_next (hF : hq_paI t len gd b n lb wo fh fv fl k L) (h : gd = true) (hb : ¬ o + len ≤ o + b) (hn : ¬ 4 < n + 1) (hs : hq_nsp t (b + 1) (hq_fnd t 124 (b + 1) (len - (b + 1))) L = some L') {k' : Nat} {fh' fv' fl' : Nat → Int32} (hr : hq_rep L' fh' fv' fl' k') : hq_paI t len true (hq_fnd t 124 (b + 1) (len - (b + 1))) (n + 1) lb wo fh' fv' fl' k' L' := by
  unfold hq_paI at hF
  rw [if_pos h] at hF
  obtain ⟨h1, h2, h3, h4, h5, h6⟩ := hF
  exact ⟨h1, h2, hr, by omega, fun h9 => absurd h9 (by omega), h6.trans (hq_par_next (show ¬ 4 ≤ n by omega) (show ¬ len ≤ b by omega) hs)⟩
end HQM6
