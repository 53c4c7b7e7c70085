/-! the landed class's text, rows and search -/
def TXW (cI : ClassId) (a : Nat → Nat) (tx rd : Nat → Nat) (ln fn : Nat) (fk fp : Int32) : va_W :=
  [(a 0, .inr (4, [.ref (a 1), .int (nI ln), .ref (a 2), .int (nI fn), .int fk, .int fp])), (a 1, .inl (cI, 60, .inl (aN tx))), (a 2, .inl (cI, 10, .inl (aN rd)))]
def RWW (cI : ClassId) (a : Nat → Nat) (fr to nn : Nat → Nat) (mv mi : Nat) : va_W :=
  [(a 0, .inr (2, [.int (nI mv), .int (nI mi), .ref (a 1), .ref (a 2), .ref (a 3)])), (a 1, .inl (cI, 3, .inl (aN fr))), (a 2, .inl (cI, 3, .inl (aN to))), (a 3, .inl (cI, 3, .inl (aN nn)))]
def SEW (cI : ClassId) (a : Nat → Nat) (xb xt xr : Nat) (wa wi wo : Nat → Nat) (hb : Nat) : va_W :=
  [(a 0, .inr (3, [.ref xb, .int (nI hb), .ref xt, .ref xr, .ref (a 1), .ref (a 2), .ref (a 3)])), (a 1, .inl (cI, 4, .inl (aN wa))), (a 2, .inl (cI, 4, .inl (aN wi))), (a 3, .inl (cI, 4, .inl (aN wo)))]
def HIW (cI cY : ClassId) (a : Nat → Nat) (f : Nat → Option Nat) (nx ct : Nat) : va_W :=
  [(a 0, .inr (1, [.ref (a 1), .int (nI nx), .int (nI ct)])), (a 1, .inl (cY, 8, .inr (.inr (.inr (.inr f)))))]
def AWN (cI : ClassId) (a n : Nat) (f : Nat → Nat) : va_W := [(a, .inl (cI, n, .inl (aN f)))]
def AQ (cY : ClassId) (a n : Nat) (f : Nat → Option Nat) : va_W := [(a, .inl (cY, n, .inr (.inr (.inr (.inr f)))))]
def av (q : List Nat) (i : Nat) : Nat := q.getD i 0
def AW (cI : ClassId) (a n : Nat) (f : Nat → Int32) : va_W := [(a, .inl (cI, n, .inl f))]
/-- the text read as wagons, as the class keeps it -/
def cxI (tx : Nat → Nat) (k st cm d n : Nat) (rd : Nat → Nat) : Prop :=
  ∃ (mn fs : Nat) (rb rk : Nat → Nat), rwI tx k st mn fs n rb rk (-9) (-9) ∧ (∀ j, j < n → rd j = rb j * 3 + rk j) ∧ (st ≠ 1 → mn = 1) ∧ (st ≤ 1 → cm = mn) ∧ (st = 2 → cm + fs = n ∧ ∀ j, fs ≤ j → j < n → rb j = d) ∧ d ≤ 5 ∧ cm ≤ 8
/-- what reading the text leaves -/
def cwE (tx : Nat → Nat) (ln : Nat) (r : Int32) (n : Nat) (rd : Nat → Nat) (v w fk fp : Int32) : Prop :=
  n = rdN tx ln ∧ (∀ j, j < n → rd j = rdB tx ln j * 3 + rdK tx ln j) ∧ r = (if rdE tx ln = 0 then nI 1 else nI 0) ∧ v = (if rdE tx ln = 0 then fk else nI (rdE tx ln)) ∧ w = (if rdE tx ln = 0 then fp else nI (rdP tx ln))
section CW
variable {tx : Nat → Nat} {k st cm d n : Nat} {rd : Nat → Nat}
theorem cw_0 (rd : Nat → Nat) : cxI tx 0 0 1 0 0 rd := ⟨1, 0, fun _ => 0, fun _ => 0, ⟨_, _, 0, 0, rfl, fun j hj => absurd hj (Nat.not_lt_zero _), by omega, by omega, by omega, by omega, by omega, rfl, rfl⟩, fun j hj => absurd hj (Nat.not_lt_zero _), fun _ => rfl, fun _ => rfl, fun z => absurd z (by decide), by omega, by omega⟩
theorem cw_b (h : cxI tx k st cm d n rd) : n ≤ 8 ∧ st ≤ 3 ∧ cm ≤ 8 ∧ d ≤ 5 ∧ (st = 2 → cm ≤ n) := by
  obtain ⟨mn, fs, rb, rk, hI, h1, h2, h3, h4, h5, h6⟩ := h
  have := rwI_b hI
  exact ⟨this.2.1, this.2.2.2, h6, h5, fun z => by have := (h4 z).1; omega⟩
theorem cw_blank (h : cxI tx k st cm d n rd) (h2 : st ≠ 1) (h1 : tx k = 32) : cxI tx (k + 1) 0 1 d n rd := by
  obtain ⟨mn, fs, rb, rk, hI, a1, a2, a3, a4, a5, a6⟩ := h
  exact ⟨mn, fs, rb, rk, rwI_blank hI h2 h1, a1, fun _ => a2 h2, fun _ => (a2 h2).symm, fun z => absurd z (by decide), a5, by omega⟩
theorem cw_digit (h : cxI tx k 0 cm d n rd) (h1 : 49 ≤ tx k ∧ tx k ≤ 56) : cxI tx (k + 1) 1 (tx k - 48) d n rd := by
  obtain ⟨mn, fs, rb, rk, hI, a1, a2, a3, a4, a5, a6⟩ := h
  exact ⟨_, fs, rb, rk, rwI_digit hI h1, a1, fun z => absurd rfl z, fun _ => rfl, fun z => absurd z (by decide), a5, by omega⟩
theorem cw_letter (h : cxI tx k st cm d n rd) (hs : st < 2) (h1 : 65 ≤ tx k ∧ tx k ≤ 70) (h2 : n + cm ≤ 8) : cxI tx (k + 1) 2 cm (tx k - 65) (n + cm) (va_cpy (fun _ => (0 * 6 + (tx k - 65)) * 3 + 0) rd 0 (n + cm - cm) cm) := by
  obtain ⟨mn, fs, rb, rk, hI, a1, a2, a3, a4, a5, a6⟩ := h
  obtain rfl := a3 (by omega)
  refine ⟨1, n, _, _, rwI_letter hI hs h1 h2, ?_, fun _ => rfl, fun z => absurd z (by decide), fun _ => ⟨by omega, fun j h3 h4 => pk_cpy_in h3 h4⟩, by omega, a6⟩
  intro j hj
  by_cases hz : j < n
  · rw [pk_cpy_out (by omega), pk_cpy_out (by omega), pk_cpy_out (by omega)]
    exact a1 j hz
  · rw [pk_cpy_in (by omega) (by omega), pk_cpy_in (by omega) (by omega), pk_cpy_in (by omega) (by omega)]
    omega
theorem cw_kind {x : Nat} (h : cxI tx k 2 cm d n rd) (h1 : tx k = 102 ∨ tx k = 120) (hx : x = if tx k = 102 then 1 else 2) : cxI tx (k + 1) 3 cm d n (va_cpy (fun _ => (0 * 6 + d) * 3 + x) rd 0 (n - cm) cm) := by
  obtain ⟨mn, fs, rb, rk, hI, a1, a2, a3, a4, a5, a6⟩ := h
  obtain ⟨b1, b2⟩ := a4 rfl
  refine ⟨mn, fs, _, _, rwI_kind hI h1, ?_, fun _ => a2 (by decide), fun z => absurd z (by decide), fun z => absurd z (by decide), a5, a6⟩
  intro j hj
  by_cases hz : j < fs
  · rw [pk_cpy_out (by omega), pk_cpy_out (by omega)]
    exact a1 j hj
  · rw [pk_cpy_in (by omega) (by omega), pk_cpy_in (by omega) (by omega), b2 j (by omega) hj, hx]
    omega
theorem cw_fin {ln mn fs : Nat} {rb rk : Nat → Nat} {e p : Nat} {fk fp : Int32} (h0 : e ≠ 0) (he : e < 100) (hE : rwE tx ln n rb rk (nI e) (nI p)) (a1 : ∀ j, j < n → rd j = rb j * 3 + rk j) (hq : rdE tx ln < 100) : cwE tx ln (nI 0) n rd (nI e) (nI p) fk fp := by
  obtain ⟨b1, b2, b3, b4, b5⟩ := hE
  have hne : rdE tx ln ≠ 0 := fun z => by
    rw [z] at b4
    exact absurd b4 (nI_m9 (by omega))
  refine ⟨b1, fun j hj => by rw [a1 j hj, (b2 j hj).1, (b2 j hj).2], (if_neg hne).symm, ?_, ?_⟩
  · rw [if_neg hne, b4]; exact if_neg hne
  · rw [if_neg hne, b5]; exact if_neg hne
theorem cw_many {ln : Nat} {fk fp : Int32} (h : cxI tx k st cm d n rd) (hs : st < 2) (h1 : 65 ≤ tx k ∧ tx k ≤ 70) (h2 : 8 < n + cm) (hk : k < ln) : cwE tx ln (nI 0) n rd (nI 3) (nI k) fk fp := by
  obtain ⟨mn, fs, rb, rk, hI, a1, a2, a3, a4, a5, a6⟩ := h
  obtain rfl := a3 (by omega)
  exact cw_fin (mn := cm) (fs := fs) (by decide) (by decide) (rwE_err (rwI_many hI hs h1 h2) hk (by decide)) a1 (rd_b tx ln).1
theorem cw_bad {ln : Nat} {fk fp : Int32} (h : cxI tx k st cm d n rd) (h1 : ¬ (st < 2 ∧ 65 ≤ tx k ∧ tx k ≤ 70)) (h2 : ¬ (st = 0 ∧ 49 ≤ tx k ∧ tx k ≤ 56)) (h3 : ¬ (st = 2 ∧ (tx k = 102 ∨ tx k = 120))) (h4 : ¬ (tx k = 32 ∧ st ≠ 1)) (hk : k < ln) : cwE tx ln (nI 0) n rd (nI 1) (nI k) fk fp := by
  obtain ⟨mn, fs, rb, rk, hI, a1, a2, a3, a4, a5, a6⟩ := h
  exact cw_fin (mn := mn) (fs := fs) (by decide) (by decide) (rwE_err (rwI_bad hI h1 h2 h3 h4) hk (by decide)) a1 (rd_b tx ln).1
theorem cw_end1 {fk fp : Int32} (h : cxI tx k 1 cm d n rd) : cwE tx k (nI 0) n rd (nI 2) (nI k) fk fp := by
  obtain ⟨mn, fs, rb, rk, hI, a1, a2, a3, a4, a5, a6⟩ := h
  exact cw_fin (mn := mn) (fs := fs) (by decide) (by decide) (rwE_2 hI) a1 (rd_b tx k).1
theorem cw_ok {fk fp : Int32} (h : cxI tx k st cm d n rd) (hs : st ≠ 1) : cwE tx k (nI 1) n rd fk fp fk fp := by
  obtain ⟨mn, fs, rb, rk, hI, a1, a2, a3, a4, a5, a6⟩ := h
  obtain ⟨b1, b2, b3, b4, b5⟩ := rwE_ok hI hs
  have h0 : rdE tx k = 0 := (wkE_9 (rd_b tx k).1).mp b4.symm
  exact ⟨b1, fun j hj => by rw [a1 j hj, (b2 j hj).1, (b2 j hj).2], (if_pos h0).symm, (if_pos h0).symm, (if_pos h0).symm⟩
end CW
/-- what reading the text as a list of trains leaves -/
def clE (tx : Nat → Nat) (ln : Nat) (r : Int32) (n : Nat) (rd : Nat → Nat) (v w fk fp : Int32) : Prop :=
  n = rlN tx ln ∧ (∀ j, j < n → rd j = rlL tx ln j) ∧ n ≤ 10 ∧ r = (if rlE tx ln = 0 then nI 1 else nI 0) ∧ v = (if rlE tx ln = 0 then fk else nI (rlE tx ln)) ∧ w = (if rlE tx ln = 0 then fp else nI (rlP tx ln))
theorem cl_err {tx : Nat → Nat} {ln k n e p : Nat} {rt : Nat → Nat} {fk fp : Int32} (h : rlI tx k n rt (nI e) (nI p)) (hk : k ≤ ln) (he : e < 100) : clE tx ln (nI 0) n rt (nI e) (nI p) fk fp := by
  obtain ⟨b1, b2, b3, b4, b5, b6⟩ := rlI_end (rlE_err h hk (fun z => absurd z (nI_m9 (by omega))))
  have hne : rlE tx ln ≠ 0 := fun z => by
    rw [z] at b5
    exact absurd b5 (nI_m9 (by omega))
  refine ⟨b1, b2, b3, (if_neg hne).symm, ?_, ?_⟩
  · rw [if_neg hne, b5]; exact if_neg hne
  · rw [if_neg hne, b6]; exact if_neg hne
theorem cl_ok {tx : Nat → Nat} {ln n : Nat} {rt : Nat → Nat} {fk fp : Int32} (h : rlI tx ln n rt (-9) (-9)) : clE tx ln (nI 1) n rt fk fp fk fp := by
  obtain ⟨b1, b2, b3, b4, b5, b6⟩ := rlI_end h
  have h0 : rlE tx ln = 0 := (wkE_9 b4).mp b5.symm
  exact ⟨b1, b2, b3, (if_pos h0).symm, (if_pos h0).symm, (if_pos h0).symm⟩
theorem fil_0 (f : Nat → Int32) (v : Int32) : f = fun j => if j < 0 then v else f j := rfl
theorem fil_step (f : Nat → Int32) (v : Int32) (q : Nat) : upd (fun j => if j < q then v else f j) q v = fun j => if j < q + 1 then v else f j := by
  funext j
  unfold upd
  by_cases h : j = q
  · rw [if_pos h, if_pos (by omega)]
  · rw [if_neg h]
    show (if j < q then v else f j) = _
    by_cases h2 : j < q
    · rw [if_pos h2, if_pos (by omega)]
    · rw [if_neg h2, if_neg (by omega)]
theorem fil_end {f : Nat → Int32} {v : Int32} {q n : Nat} (h : q = n) : (fun j => if j < q then v else f j) = fun j => if j < n then v else f j := by rw [h]
theorem fil_nat (f : Nat → Nat) (v n : Nat) : (fun j => if j < n then nI v else nI (f j)) = aN (fun j => if j < n then v else f j) := by
  funext j
  show _ = nI (if j < n then v else f j)
  split <;> rfl
