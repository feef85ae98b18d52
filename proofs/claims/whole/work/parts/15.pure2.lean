/-! The terms of an example, as a list. -/
def hq_tm (fh fv : Nat → Int32) (f g : Nat) : Int32 × Int32 := (((fh f) * 16777619) ^^^ (fh g), Int64.toInt32 (f_H_clip (((Int32.toInt64 (fv f)) * (Int32.toInt64 (fv g))) / 100) 99999))
def hq_prs (fh fv fl : Nat → Int32) (f : Nat) (rt : Int32) : Nat → Nat → List (Int32 × Int32)
  | _, 0 => []
  | g, n + 1 => if fl g = rt then hq_tm fh fv f g :: hq_prs fh fv fl f rt (g + 1) n else hq_prs fh fv fl f rt (g + 1) n
def hq_prs0 (fh fv fl : Nat → Int32) (k f : Nat) (rt : Int32) : List (Int32 × Int32) := if fl f = rt then hq_prs fh fv fl f rt f (k - f) else hq_prs fh fv fl f rt 0 (k - 0)
def hq_cr (fh fv fl : Nat → Int32) (k : Nat) (lf rt : Int32) : Nat → Nat → List (Int32 × Int32)
  | _, 0 => []
  | f, n + 1 => if fl f = lf then hq_prs0 fh fv fl k f rt ++ hq_cr fh fv fl k lf rt (f + 1) n else hq_cr fh fv fl k lf rt (f + 1) n
def hq_fs (fh fv : Nat → Int32) : Nat → Nat → List (Int32 × Int32)
  | _, 0 => []
  | f, n + 1 => (fh f, fv f) :: hq_fs fh fv (f + 1) n
def hq_crs (fh fv fl : Nat → Int32) (k : Nat) (cl cr : Nat → Int32) : Nat → Nat → List (Int32 × Int32)
  | _, 0 => []
  | g, n + 1 => hq_cr fh fv fl k (cl g) (cr g) 0 k ++ hq_crs fh fv fl k cl cr (g + 1) n
def hq_tms (fh fv fl : Nat → Int32) (k : Nat) (cl cr : Nat → Int32) (nc : Nat) : List (Int32 × Int32) := hq_fs fh fv 0 k ++ hq_crs fh fv fl k cl cr 0 nc ++ [(11650396, 100)]
theorem hq_tms_eq (fh fv fl : Nat → Int32) (k : Nat) (cl cr : Nat → Int32) (nc : Nat) : hq_tms fh fv fl k cl cr nc = hq_fs fh fv 0 k ++ hq_crs fh fv fl k cl cr 0 nc ++ [(11650396, 100)] := rfl
section HQT
variable {fh fv fl cl cr : Nat → Int32} {k j f g : Nat} {lf rt : Int32}
theorem hq_prs_yes (h : g < j) (hc : fl g = rt) : hq_prs fh fv fl f rt g (j - g) = hq_tm fh fv f g :: hq_prs fh fv fl f rt (g + 1) (j - (g + 1)) := by
  rw [show j - g = (j - (g + 1)) + 1 by omega]
  simp only [hq_prs, if_pos hc]
theorem hq_prs_no (h : g < j) (hc : ¬ fl g = rt) : hq_prs fh fv fl f rt g (j - g) = hq_prs fh fv fl f rt (g + 1) (j - (g + 1)) := by
  rw [show j - g = (j - (g + 1)) + 1 by omega]
  simp only [hq_prs, if_neg hc]
theorem hq_prs_end (h : ¬ g < j) : hq_prs fh fv fl f rt g (j - g) = [] := by
  rw [show j - g = 0 by omega]
  rfl
theorem hq_cr_yes (h : f < j) (hc : fl f = lf) : hq_cr fh fv fl k lf rt f (j - f) = hq_prs0 fh fv fl k f rt ++ hq_cr fh fv fl k lf rt (f + 1) (j - (f + 1)) := by
  rw [show j - f = (j - (f + 1)) + 1 by omega]
  simp only [hq_cr, if_pos hc]
theorem hq_cr_no (h : f < j) (hc : ¬ fl f = lf) : hq_cr fh fv fl k lf rt f (j - f) = hq_cr fh fv fl k lf rt (f + 1) (j - (f + 1)) := by
  rw [show j - f = (j - (f + 1)) + 1 by omega]
  simp only [hq_cr, if_neg hc]
theorem hq_cr_end (h : ¬ f < j) : hq_cr fh fv fl k lf rt f (j - f) = [] := by
  rw [show j - f = 0 by omega]
  rfl
theorem hq_fs_go (h : f < j) : hq_fs fh fv f (j - f) = (fh f, fv f) :: hq_fs fh fv (f + 1) (j - (f + 1)) := by
  rw [show j - f = (j - (f + 1)) + 1 by omega]
  rfl
theorem hq_fs_end (h : ¬ f < j) : hq_fs fh fv f (j - f) = [] := by
  rw [show j - f = 0 by omega]
  rfl
theorem hq_crs_go (h : g < j) : hq_crs fh fv fl k cl cr g (j - g) = hq_cr fh fv fl k (cl g) (cr g) 0 k ++ hq_crs fh fv fl k cl cr (g + 1) (j - (g + 1)) := by
  rw [show j - g = (j - (g + 1)) + 1 by omega]
  rfl
theorem hq_crs_end (h : ¬ g < j) : hq_crs fh fv fl k cl cr g (j - g) = [] := by
  rw [show j - g = 0 by omega]
  rfl
end HQT
section HQW
variable {α : Type} {W P : List α} {y : α} {pr : α → Int32} {th : Nat → Int32} {q : Nat}
theorem hq_wrF : hq_wr upd th q ((W ++ [y]).map pr) = upd (hq_wr upd th q (W.map pr)) (q + W.length) (pr y) := by
  rw [List.map_append, hq_wr_app, List.length_map]
  rfl
theorem hq_wrF0 : hq_wr upd th 0 ((W ++ [y]).map pr) = upd (hq_wr upd th 0 (W.map pr)) W.length (pr y) := by
  rw [hq_wrF, Nat.zero_add]
theorem hq_wrG : hq_wr upd th q ((W ++ P).map pr) = hq_wr upd (hq_wr upd th q (W.map pr)) (q + W.length) (P.map pr) := by
  rw [List.map_append, hq_wr_app, List.length_map]
theorem hq_wrG0 : hq_wr upd th 0 ((W ++ P).map pr) = hq_wr upd (hq_wr upd th 0 (W.map pr)) W.length (P.map pr) := by
  rw [hq_wrG, Nat.zero_add]
theorem hq_wrN : nI (q + (W ++ [y]).length) = nI (q + W.length + 1) := by
  rw [List.length_append, ← Nat.add_assoc]
  rfl
theorem hq_wrN0 : nI ((W ++ [y]).length) = nI (W.length + 1) := by
  rw [List.length_append]
  rfl
theorem hq_wrM : nI (q + (W ++ P).length) = nI (q + W.length + P.length) := by
  rw [List.length_append, Nat.add_assoc]
theorem hq_wrM0 : nI ((W ++ P).length) = nI (W.length + P.length) := by
  rw [List.length_append]
end HQW
