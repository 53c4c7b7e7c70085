/-! the worlds, and the words for a yard: u is the reference's own row of 131 ints, as naturals -/
def mny (u : Nat → Nat) (t : Nat) : Nat := u (23 + 27 * t + 0)
def tst (u : Nat → Nat) (t : Nat) : Nat := u (23 + 27 * t + 1)
def tat (u : Nat → Nat) (t : Nat) : Nat := u (23 + 27 * t + 2)
def num (u : Nat → Nat) (t k : Nat) : Nat := u (23 + 27 * t + (3 + 3 * k))
def dst (u : Nat → Nat) (t k : Nat) : Nat := u (23 + 27 * t + (3 + 3 * k + 1))
def knd (u : Nat → Nat) (t k : Nat) : Nat := u (23 + 27 * t + (3 + 3 * k + 2))
/-- the wagons of the first tracks -/
def wgs (u : Nat → Nat) : Nat → Nat
  | 0 => 0
  | n + 1 => wgs u n + mny u n
/-- gaps: (least so far, 99 where none; the latest dangerous kind, 0 where none; the common ones since) -/
def gstep (s : Nat × Nat × Nat) (k : Nat) : Nat × Nat × Nat := if k = 0 then (s.1, s.2.1, s.2.2 + 1) else (if s.2.1 ≠ 0 ∧ s.2.1 ≠ k then Nat.min s.1 s.2.2 else s.1, k, 0)
def gfold (l : List Nat) : Nat × Nat × Nat := l.foldl gstep (99, 0, 0)
def gap (l : List Nat) : Nat := (gfold l).1
/-- the kinds of the first n wagons of a track; of those from i on, n of them -/
def kds (u : Nat → Nat) (t n : Nat) : List Nat := (List.range n).map (knd u t)
def kdf (u : Nat → Nat) (t i n : Nat) : List Nat := (List.range n).map (fun j => knd u t (i + j))
def MW (cI : ClassId) (a : Nat → Nat) (u pa im tx rw rb rk rt he tr be sp : Nat → Nat) (pm fl ln rm rd bn : Nat) (fk fp rs wk wp bm : Int32) : va_W :=
  [(a 0, .inr (7, [.ref (a 1), .ref (a 2), .int (nI pm), .ref (a 3), .int (nI fl), .ref (a 4), .int (nI ln), .int fk, .int fp, .int rs, .ref (a 5), .int (nI rm), .int (nI rd), .ref (a 6), .ref (a 7), .ref (a 8), .int wk, .int wp, .ref (a 9), .ref (a 10), .ref (a 11), .int bm, .int (nI bn), .ref (a 12)])),
   (a 1, .inl (cI, 131, .inl (aN u))), (a 2, .inl (cI, 1048, .inl (aN pa))), (a 3, .inl (cI, 262, .inl (aN im))), (a 4, .inl (cI, 60, .inl (aN tx))), (a 5, .inl (cI, 24, .inl (aN rw))), (a 6, .inl (cI, 8, .inl (aN rb))), (a 7, .inl (cI, 8, .inl (aN rk))), (a 8, .inl (cI, 10, .inl (aN rt))), (a 9, .inl (cI, 524, .inl (aN he))), (a 10, .inl (cI, 9, .inl (aN tr))), (a 11, .inl (cI, 9, .inl (aN be))), (a 12, .inl (cI, 4, .inl (aN sp)))]
def GW (a : Nat) (g1 g2 g3 : Nat) : va_W := [(a, .inr (0, [.int (nI g1), .int (nI g2), .int (nI g3)]))]
def YW (cI : ClassId) (a : Nat → Nat) (st ds le wg : Nat → Nat) (te : Nat → Int32) (K C ck mv mm tg gn wc tn : Nat) (g1 g2 g3 : Nat) : va_W :=
  [(a 0, .inr (5, [.int (nI K), .int (nI C), .int (nI ck), .int (nI mv), .int (nI mm), .int (nI tg), .int (nI gn), .int (nI wc), .int (nI tn), .ref (a 1), .ref (a 2), .ref (a 3), .ref (a 4), .ref (a 5), .ref (a 6)])),
   (a 1, .inl (cI, 4, .inl (aN st))), (a 2, .inl (cI, 10, .inl (aN ds))), (a 3, .inl (cI, 4, .inl (aN le))), (a 4, .inl (cI, 4, .inl te)), (a 5, .inl (cI, 32, .inl (aN wg))), (a 6, .inr (0, [.int (nI g1), .int (nI g2), .int (nI g3)]))]
theorem nq_in1 {v lo hi : Int32} (h1 : ¬ v < lo) (h2 : ¬ hi < v) : nI 1 = if lo ≤ v ∧ v ≤ hi then nI 1 else nI 0 := by rw [if_pos ⟨Int32.not_lt.mp h1, Int32.not_lt.mp h2⟩]
theorem nq_in2 {v lo hi : Int32} (h1 : v < lo) : nI 0 = if lo ≤ v ∧ v ≤ hi then nI 1 else nI 0 := by rw [if_neg (fun h => Int32.not_le.mpr h1 h.1)]
theorem nq_in3 {v lo hi : Int32} (h2 : hi < v) : nI 0 = if lo ≤ v ∧ v ≤ hi then nI 1 else nI 0 := by rw [if_neg (fun h => Int32.not_le.mpr h2 h.2)]
