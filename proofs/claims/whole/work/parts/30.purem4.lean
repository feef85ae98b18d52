/-! The same text at another place: tx from o on holds what t holds. -/
section HQSH
variable {tx t : Nat → Int32} {o len : Nat}
theorem hq_fnd_sh (hag : ∀ q, q < len → tx (o + q) = t q) (c : Int32) : ∀ n i, i + n ≤ len → hq_fnd tx c (o + i) n = o + hq_fnd t c i n := by
  intro n
  induction n with
  | zero => intro i _; rfl
  | succ n ih =>
    intro i h
    have e := hag i (by omega)
    by_cases hc : t i = c
    · simp only [hq_fnd, e, if_pos hc]
    · simp only [hq_fnd, e, if_neg hc]
      rw [show o + i + 1 = o + (i + 1) by omega]
      exact ih (i + 1) (by omega)
theorem hq_skp_sh (hag : ∀ q, q < len → tx (o + q) = t q) (c : Int32) : ∀ n i, i + n ≤ len → hq_skp tx c (o + i) n = o + hq_skp t c i n := by
  intro n
  induction n with
  | zero => intro i _; rfl
  | succ n ih =>
    intro i h
    have e := hag i (by omega)
    by_cases hc : t i = c
    · simp only [hq_skp, e, if_pos hc]
      rw [show o + i + 1 = o + (i + 1) by omega]
      exact ih (i + 1) (by omega)
    · simp only [hq_skp, e, if_neg hc]
theorem hq_allD_sh (hag : ∀ q, q < len → tx (o + q) = t q) : ∀ n i, i + n ≤ len → hq_allD tx (o + i) n = hq_allD t i n := by
  intro n
  induction n with
  | zero => intro i _; rfl
  | succ n ih =>
    intro i h
    have e := hag i (by omega)
    simp only [hq_allD, e]
    rw [show o + i + 1 = o + (i + 1) by omega, ih (i + 1) (by omega)]
theorem hq_ndg_sh (hag : ∀ q, q < len → tx (o + q) = t q) : ∀ n i, i + n ≤ len → hq_ndg tx (o + i) n = hq_ndg t i n := by
  intro n
  induction n with
  | zero => intro i _; rfl
  | succ n ih =>
    intro i h
    have e := hag i (by omega)
    simp only [hq_ndg, e]
    rw [show o + i + 1 = o + (i + 1) by omega, ih (i + 1) (by omega)]
theorem hq_dec_sh (hag : ∀ q, q < len → tx (o + q) = t q) : ∀ n i (v : Int32), i + n ≤ len → hq_dec tx (o + i) n v = hq_dec t i n v := by
  intro n
  induction n with
  | zero => intro i v _; rfl
  | succ n ih =>
    intro i v h
    have e := hag i (by omega)
    simp only [hq_dec, e]
    rw [show o + i + 1 = o + (i + 1) by omega, ih (i + 1) _ (by omega)]
theorem hq_blk_sh (hag : ∀ q, q < len → tx (o + q) = t q) (i : Nat) : ∀ n (v : Int32), i + n ≤ len → hq_blk tx (o + i) n v = hq_blk t i n v := by
  intro n
  induction n with
  | zero => intro v _; rfl
  | succ n ih =>
    intro v h
    have e := hag (i + n) (by omega)
    simp only [hq_blk]
    rw [show o + i + n = o + (i + n) by omega, e, ih _ (by omega)]
theorem hq_hb_sh (hag : ∀ q, q < len → tx (o + q) = t q) (i : Nat) (sd : Int32) : ∀ b, i + 4 * b ≤ len → hq_hb tx (o + i) sd b = hq_hb t i sd b := by
  intro b
  induction b with
  | zero => intro _; rw [hq_hb_0, hq_hb_0]
  | succ b ih =>
    intro h
    rw [hq_hb_s, hq_hb_s, ih (by omega)]
    have e : hq_b4 tx (o + i + 4 * b) = hq_b4 t (i + 4 * b) := by
      unfold hq_b4
      rw [show o + i + 4 * b = o + (i + 4 * b) by omega]
      exact hq_blk_sh hag _ _ _ (by omega)
    rw [e]
theorem hq_areD_sh (hag : ∀ q, q < len → tx (o + q) = t q) {i j : Nat} (m : Nat) (hi : i ≤ j) (hj : j ≤ len) : hq_areD tx (o + i) (o + j) m = hq_areD t i j m := by
  unfold hq_areD
  rw [show o + j - (o + i) = j - i by omega, hq_allD_sh hag _ _ (by omega)]
  have e : decide (o + i < o + j) = decide (i < j) := by
    by_cases h : i < j
    · rw [decide_eq_true h, decide_eq_true (show o + i < o + j by omega)]
    · rw [decide_eq_false h, decide_eq_false (show ¬ o + i < o + j by omega)]
  rw [e]
theorem hq_st_sh (hag : ∀ q, q < len → tx (o + q) = t q) {i j : Nat} (hj : j ≤ len) : hq_st tx (o + i) (o + j) = o + hq_st t i j := by
  unfold hq_st
  by_cases h : i < j
  · rw [if_pos h, if_pos (show o + i < o + j by omega), hag i (by omega)]
    by_cases h2 : t i = 45
    · rw [if_pos h2, if_pos h2]; omega
    · rw [if_neg h2, if_neg h2]
  · rw [if_neg h, if_neg (show ¬ o + i < o + j by omega)]
theorem hq_isN_sh (hag : ∀ q, q < len → tx (o + q) = t q) {i j : Nat} (hj : j ≤ len) : hq_isN tx (o + i) (o + j) = hq_isN t i j := by
  unfold hq_isN
  by_cases h : i < j
  · rw [if_pos h, if_pos (show o + i < o + j by omega), hag i (by omega)]
  · rw [if_neg h, if_neg (show ¬ o + i < o + j by omega)]
theorem hq_num_sh (hag : ∀ q, q < len → tx (o + q) = t q) {i j : Nat} (hi : i ≤ j) (hj : j ≤ len) : hq_num tx (o + i) (o + j) = hq_num t i j := by
  unfold hq_num
  rw [hq_st_sh hag hj, hq_isN_sh hag hj]
  have hs := hq_st_le (t := t) hi
  have hp := hq_fnd_le t 46 (j - hq_st t i j) (hq_st t i j)
  rw [show o + j - (o + hq_st t i j) = j - hq_st t i j by omega, hq_fnd_sh hag 46 _ _ (by omega)]
  generalize hq_st t i j = s at *
  generalize hq_fnd t 46 s (j - s) = p at *
  unfold hq_numB
  rw [hq_areD_sh hag 3 (by omega) (by omega), show o + p - (o + s) = p - s by omega, hq_dec_sh hag _ _ _ (by omega), show o + j - (o + p) = j - p by omega]
  by_cases hA : hq_areD t s p 3 = true
  · rw [if_pos hA, if_pos hA]
    by_cases h1 : j ≤ p
    · rw [if_pos h1, if_pos (show o + j ≤ o + p by omega)]
    · rw [if_neg h1, if_neg (show ¬ o + j ≤ o + p by omega), show o + p + 1 = o + (p + 1) by omega, hq_areD_sh hag 2 (by omega) (by omega), show o + j - (o + (p + 1)) = j - (p + 1) by omega, hq_dec_sh hag _ _ _ (by omega)]
  · rw [if_neg hA, if_neg hA]
theorem hq_numC_sh (hag : ∀ q, q < len → tx (o + q) = t q) {i j : Nat} (hi : i ≤ j) (hj : j ≤ len) : hq_numC tx (o + i) (o + j) = hq_numC t i j := by
  rw [hq_numC, hq_numC, hq_num_sh hag hi hj]
theorem hq_nuM_sh (hag : ∀ q, q < len → tx (o + q) = t q) {i j : Nat} (hi : i ≤ j) (hj : j ≤ len) : hq_nuM tx (o + i) (o + j) = hq_nuM t i j := by
  rw [hq_nuM_eq (by omega), hq_nuM_eq hi, hq_num_sh hag hi hj]
theorem hq_hash_sh (hag : ∀ q, q < len → tx (o + q) = t q) {i j : Nat} (sd : Int32) (hi : i ≤ j) (hj : j ≤ len) : hq_hash tx (o + i) (o + j) sd = hq_hash t i j sd := by
  unfold hq_hash
  rw [hq_areD_sh hag 9 hi hj, show o + j - (o + i) = j - i by omega, hq_dec_sh hag _ _ _ (by omega), hq_hb_sh hag _ _ _ (by omega), show o + i + 4 * ((j - i) / 4) = o + (i + 4 * ((j - i) / 4)) by omega, show o + j - (o + (i + 4 * ((j - i) / 4))) = j - (i + 4 * ((j - i) / 4)) by omega, hq_blk_sh hag _ _ _ (by omega)]
  by_cases h : j ≤ i + 4 * ((j - i) / 4)
  · rw [if_pos h, if_pos (show o + j ≤ o + (i + 4 * ((j - i) / 4)) by omega)]
  · rw [if_neg h, if_neg (show ¬ o + j ≤ o + (i + 4 * ((j - i) / 4)) by omega)]
theorem hq_rp_sh (hag : ∀ q, q < len → tx (o + q) = t q) {i j : Nat} (hi : i ≤ j) (hj : j ≤ len) : f_Line_readPart tx (o + i) (o + j) = f_Line_readPart t i j ∧ f_Line_readPart_o2 tx (o + i) (o + j) = f_Line_readPart_o2 t i j := by
  have hp := hq_fnd_le t 58 (j - i) i
  have e : hq_fnd tx 58 (o + i) (o + j - (o + i)) = o + hq_fnd t 58 i (j - i) := by
    rw [show o + j - (o + i) = j - i by omega]
    exact hq_fnd_sh hag 58 _ _ (by omega)
  unfold f_Line_readPart f_Line_readPart_o2
  rw [e]
  generalize hq_fnd t 58 i (j - i) = p at *
  by_cases h1 : j ≤ p
  · rw [if_pos h1, if_pos (show o + j ≤ o + p by omega), if_pos h1, if_pos (show o + j ≤ o + p by omega)]
    by_cases h2 : p ≤ i
    · rw [if_pos h2, if_pos (show o + p ≤ o + i by omega)]; exact ⟨rfl, rfl⟩
    · rw [if_neg h2, if_neg (show ¬ o + p ≤ o + i by omega)]; exact ⟨rfl, rfl⟩
  · rw [if_neg h1, if_neg (show ¬ o + j ≤ o + p by omega), if_neg h1, if_neg (show ¬ o + j ≤ o + p by omega), show o + p + 1 = o + (p + 1) by omega, hq_numC_sh hag (by omega) hj]
    by_cases h2 : p ≤ i
    · rw [if_pos h2, if_pos (show o + p ≤ o + i by omega)]; exact ⟨rfl, rfl⟩
    · rw [if_neg h2, if_neg (show ¬ o + p ≤ o + i by omega)]; exact ⟨rfl, rfl⟩
theorem hq_fx_sh (hag : ∀ q, q < len → tx (o + q) = t q) {i j : Nat} (lt sd fc : Int32) (hi : i ≤ j) (hj : j ≤ len) : hq_fx tx lt sd fc (o + i) (o + j) = hq_fx t lt sd fc i j := by
  have hp := hq_fnd_le t 58 (j - i) i
  unfold hq_fx
  rw [show o + j - (o + i) = j - i by omega, hq_fnd_sh hag 58 _ _ (by omega), hq_hash_sh hag sd (by omega) (by omega), (hq_rp_sh hag hi hj).2]
theorem hq_ttl_sh (hag : ∀ q, q < len → tx (o + q) = t q) {i j : Nat} (hi : i ≤ j) (hj : j ≤ len) : hq_ttl tx (o + i) (o + j) = hq_ttl t i j := by
  have hp := hq_fnd_le t 58 (j - i) i
  unfold hq_ttl
  by_cases h : i = j
  · rw [if_pos h, if_pos (show o + i = o + j by omega)]
  · rw [if_neg h, if_neg (show ¬ o + i = o + j by omega), (hq_rp_sh hag hi hj).1, (hq_rp_sh hag hi hj).2, hag i (by omega), show o + j - (o + i) = j - i by omega, hq_fnd_sh hag 58 _ _ (by omega), hq_hash_sh hag 0 (by omega) (by omega)]
theorem hq_fts_sh (hag : ∀ q, q < len → tx (o + q) = t q) (lt sd fc : Int32) {j : Nat} (hj : j ≤ len) : ∀ n a L, a ≤ j → hq_fts tx lt sd fc (o + j) n (o + a) L = hq_fts t lt sd fc j n a L := by
  intro n
  induction n with
  | zero =>
    intro a L ha
    simp only [hq_fts]
    by_cases h : a = j
    · rw [if_pos h, if_pos (show o + a = o + j by omega)]
    · rw [if_neg h, if_neg (show ¬ o + a = o + j by omega)]
  | succ n ih =>
    intro a L ha
    have hp := hq_fnd_le t 32 (j - a) a
    have hs := hq_skp_le t 32 (j - hq_fnd t 32 a (j - a)) (hq_fnd t 32 a (j - a))
    simp only [hq_fts]
    rw [show o + j - (o + a) = j - a by omega, hq_fnd_sh hag 32 _ _ (by omega)]
    by_cases h1 : j ≤ a
    · rw [if_pos h1, if_pos (show o + j ≤ o + a by omega)]
      by_cases h : a = j
      · rw [if_pos h, if_pos (show o + a = o + j by omega)]
      · rw [if_neg h, if_neg (show ¬ o + a = o + j by omega)]
    · rw [if_neg h1, if_neg (show ¬ o + j ≤ o + a by omega), (hq_rp_sh hag (by omega) (by omega)).1, show o + j - (o + hq_fnd t 32 a (j - a)) = j - hq_fnd t 32 a (j - a) by omega, hq_skp_sh hag 32 _ _ (by omega), hq_fx_sh hag lt sd fc (by omega) (by omega), ih _ _ (by omega)]
theorem hq_bind_eq {α β : Type} {x : Option α} {F F' : α → Option β} (h : ∀ a, F a = F' a) : x.bind F = x.bind F' := by
  have e : F = F' := funext h
  rw [e]
theorem hq_nspN_sh (hag : ∀ q, q < len → tx (o + q) = t q) {i j : Nat} (hi : i ≤ j) (hj : j ≤ len) (L : List (Int32 × Int32 × Int32)) (n : Nat) : (hq_ttl tx (o + i) (hq_fnd tx 32 (o + i) (o + j - (o + i)))).bind (fun q => hq_fts tx q.1 q.2.1 q.2.2 (o + j) n (hq_skp tx 32 (hq_fnd tx 32 (o + i) (o + j - (o + i))) (o + j - hq_fnd tx 32 (o + i) (o + j - (o + i)))) L) = (hq_ttl t i (hq_fnd t 32 i (j - i))).bind (fun q => hq_fts t q.1 q.2.1 q.2.2 j n (hq_skp t 32 (hq_fnd t 32 i (j - i)) (j - hq_fnd t 32 i (j - i))) L) := by
  have hp := hq_fnd_le t 32 (j - i) i
  have hs := hq_skp_le t 32 (j - hq_fnd t 32 i (j - i)) (hq_fnd t 32 i (j - i))
  have e1 : hq_fnd tx 32 (o + i) (o + j - (o + i)) = o + hq_fnd t 32 i (j - i) := by
    rw [show o + j - (o + i) = j - i by omega]
    exact hq_fnd_sh hag 32 _ _ (by omega)
  rw [e1]
  have e2 : hq_skp tx 32 (o + hq_fnd t 32 i (j - i)) (o + j - (o + hq_fnd t 32 i (j - i))) = o + hq_skp t 32 (hq_fnd t 32 i (j - i)) (j - hq_fnd t 32 i (j - i)) := by
    rw [show o + j - (o + hq_fnd t 32 i (j - i)) = j - hq_fnd t 32 i (j - i) by omega]
    exact hq_skp_sh hag 32 _ _ (by omega)
  rw [e2, hq_ttl_sh hag (by omega) (by omega)]
  exact hq_bind_eq (fun q => hq_fts_sh hag _ _ _ hj _ _ _ (by omega))
theorem hq_nsp_sh (hag : ∀ q, q < len → tx (o + q) = t q) {i j : Nat} (hi : i ≤ j) (hj : j ≤ len) (L : List (Int32 × Int32 × Int32)) : hq_nsp tx (o + i) (o + j) L = hq_nsp t i j L := by
  rw [hq_nsp, hq_nsp]
  exact hq_nspN_sh hag hi hj L 12
end HQSH
