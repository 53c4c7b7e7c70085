/-! what the calls answer and what they leave: S = (u, past, how many, images, filled, text, length, fault, place, reason) -/
abbrev AS : Type := (Nat → Nat) × (Nat → Nat) × Nat × (Nat → Nat) × Nat × (Nat → Nat) × Nat × Int32 × Int32 × Int32
abbrev SC : Type := (Nat → Nat) × (Nat → Nat) × (Nat → Nat) × (Nat → Nat) × (Nat → Nat) × (Nat → Nat) × (Nat → Nat) × (Nat → Nat) × Nat × Nat × Nat × Int32 × Int32 × Int32
def MSW (cI : ClassId) (a : Nat → Nat) (S : AS) (X : SC) : va_W := match S, X with
  | (u, pa, pm, im, fl, tx, ln, fk, fp, rs), (rw, rb, rk, rt, he, tr, be, sp, rm, rd, bn, wk, wp, bm) => MW cI a u pa im tx rw rb rk rt he tr be sp pm fl ln rm rd bn fk fp rs wk wp bm
def tOf (v : Int32) : Nat := v.toNatClampNeg
theorem tOf_nI {n : Nat} (h : n < 2147483648) : tOf (nI n) = n := nI_clamp h
abbrev inR (lo hi : Nat) (v : Int32) : Prop := nI lo ≤ v ∧ v ≤ nI hi
theorem inR_nI {lo hi n : Nat} (h1 : lo ≤ n) (h2 : n ≤ hi) (h3 : hi < 2147483648) : inR lo hi (nI n) := ⟨(nI_leI (by omega) (by omega)).mpr h1, (nI_leI (by omega) h3).mpr h2⟩
/-- a change: the state before it is remembered -/
def chg (S : AS) (u2 : Nat → Nat) : AS := (u2, remP S.1 S.2.1 S.2.2.1, remN S.2.2.1, S.2.2.2)
/-- the bounds that hold after at most N calls -/
def Wf (N : Nat) (u : Nat → Nat) : Prop :=
  (2 ≤ u 4 ∧ u 4 ≤ 4) ∧ (1 ≤ u 5 ∧ u 5 ≤ 8) ∧ u 0 ≤ 3 ∧ (10 ≤ u 1 ∧ u 1 ≤ 600) ∧ (1 ≤ u 2 ∧ u 2 ≤ 20) ∧ u 3 ≤ 30 ∧ u 12 ≤ 10 ∧ (∀ j, j < 10 → u (13 + j) < 6) ∧
  (∀ t, t < 4 → mny u t ≤ 8 ∧ tst u t ≤ 1 ∧ tat u t ≤ u 6) ∧ (∀ t, t < u 4 → mny u t ≤ u 5) ∧ (∀ t k, t < 4 → k < 8 → dst u t k < 6 ∧ knd u t k < 3) ∧ ∀ k, k < 131 → u k ≤ 1000 * N + 600
-- pause, test, depart, begin, set
def pauF (u : Nat → Nat) (k : Nat) : Nat → Nat := va_up u 6 (u 6 + k)
def tesF (u : Nat → Nat) (t : Nat) : Nat → Nat := va_up (va_up (va_up u 6 (u 6 + (u 3 + 2 * mny u t))) (23 + 27 * t + 1) 1) (23 + 27 * t + 2) (u 6 + (u 3 + 2 * mny u t))
def dep4 (u : Nat → Nat) (t : Nat) : Nat → Nat := va_up (va_up (va_up (va_up u (23 + 27 * t + 0) 0) (23 + 27 * t + 1) 0) 10 (u 10 + 1)) 11 (u 11 + mny u t)
def depL (u : Nat → Nat) (t k : Nat) : Nat → Nat := va_cpy (dep4 u t) (dep4 u t) 14 13 k
def depF (u : Nat → Nat) (t : Nat) : Nat → Nat := va_up (depL u t (u 12 - 1)) 12 (u 12 - 1)
def begZ (u : Nat → Nat) (k : Nat) : Nat → Nat := va_cpy (fun _ => 0) u 0 6 k
def begF (u : Nat → Nat) (K C : Nat) : Nat → Nat := va_up (va_up (begZ u 125) 4 K) 5 C
def aPau (u : Nat → Nat) (v : Int32) : Int32 := if inR 1 1000 v then nI (u 6 + tOf v) else -1
def nPau (S : AS) (v : Int32) : AS := if inR 1 1000 v then chg S (pauF S.1 (tOf v)) else S
def aTes (u : Nat → Nat) (v : Int32) : Int32 := if inR 0 (u 4 - 1) v then (if mny u (tOf v) = 0 then -2 else nI (u 3 + 2 * mny u (tOf v))) else -1
def nTes (S : AS) (v : Int32) : AS := if inR 0 (S.1 4 - 1) v ∧ mny S.1 (tOf v) ≠ 0 then chg S (tesF S.1 (tOf v)) else S
def aDep (u : Nat → Nat) (v : Int32) : Int32 := if inR 0 (u 4 - 1) v then (if rea u (tOf v) ≠ 0 then -2 else nI (mny u (tOf v))) else -1
def setR (S : AS) (r : Int32) : AS := (S.1, S.2.1, S.2.2.1, S.2.2.2.1, S.2.2.2.2.1, S.2.2.2.2.2.1, S.2.2.2.2.2.2.1, S.2.2.2.2.2.2.2.1, S.2.2.2.2.2.2.2.2.1, r)
def nDep (S : AS) (v : Int32) : AS := if inR 0 (S.1 4 - 1) v then (if rea S.1 (tOf v) ≠ 0 then setR S (nI (rea S.1 (tOf v))) else chg S (depF S.1 (tOf v))) else S
def aBeg (u : Nat → Nat) (v w : Int32) : Int32 := if inR 2 4 v ∧ inR 1 8 w then nI (wgs u (u 4)) else -1
def nBeg (S : AS) (v w : Int32) : AS := if inR 2 4 v ∧ inR 1 8 w then chg S (begF S.1 (tOf v) (tOf w)) else S
def setLo (k : Nat) : Nat := match k with | 1 => 10 | 2 => 1 | _ => 0
def setHi (k : Nat) : Nat := match k with | 0 => 3 | 1 => 600 | 2 => 20 | _ => 30
def setOk (v w : Int32) : Prop := inR 0 3 v ∧ inR (setLo (tOf v)) (setHi (tOf v)) w
def aSet (u : Nat → Nat) (v w : Int32) : Int32 := if inR 0 3 v ∧ inR (setLo (tOf v)) (setHi (tOf v)) w then nI (u (tOf v)) else -1
def nSet (S : AS) (v w : Int32) : AS := if inR 0 3 v ∧ inR (setLo (tOf v)) (setHi (tOf v)) w then chg S (va_up S.1 (tOf v) (tOf w)) else S
-- move
def areT (u : Nat → Nat) (f t n : Int32) : Prop := inR 0 (u 4 - 1) f ∧ inR 0 (u 4 - 1) t ∧ f ≠ t ∧ nI 1 ≤ n ∧ n ≤ nI 8
def aCos (u : Nat → Nat) (f t n : Int32) : Int32 := if ((nI 0 ≤ f ∧ f ≤ nI (u 4 - 1)) ∧ (nI 0 ≤ t ∧ t ≤ nI (u 4 - 1)) ∧ f ≠ t ∧ nI 1 ≤ n ∧ n ≤ nI 8) then costI u (tOf f) (tOf t) (tOf n) else -1
def nMov (S : AS) (f t n : Int32) : AS := if ¬ aCos S.1 f t n < 0 then chg S (carU S.1 (tOf f) (tOf t) (tOf n) (mins S.1 (tOf f) (tOf t) (tOf n))) else S
-- undo, the text, images
def aUnd (pm : Nat) : Int32 := if pm = 0 then -2 else nI (pm - 1)
def nUnd (S : AS) : AS := if S.2.2.1 = 0 then S else (va_cpy S.2.1 S.1 (131 * (S.2.2.1 - 1)) 0 131, S.2.1, S.2.2.1 - 1, S.2.2.2)
def aWri (ln : Nat) (v : Int32) : Int32 := if inR 32 126 v then (if ln = 60 then -3 else nI (ln + 1)) else -1
def setT (S : AS) (tx : Nat → Nat) (ln : Nat) : AS := (S.1, S.2.1, S.2.2.1, S.2.2.2.1, S.2.2.2.2.1, tx, ln, S.2.2.2.2.2.2.2)
def nWri (S : AS) (v : Int32) : AS := if inR 32 126 v ∧ S.2.2.2.2.2.2.1 ≠ 60 then setT S (va_up S.2.2.2.2.2.1 S.2.2.2.2.2.2.1 (tOf v)) (S.2.2.2.2.2.2.1 + 1) else S
def nWip (S : AS) : AS := setT S S.2.2.2.2.2.1 0
def aFau (fk fp v : Int32) : Int32 := if v = 0 then fk else if v = nI 1 then fp else -1
def flS (fl i : Nat) : Nat := if i = 0 then (if fl % 2 = 0 then fl + 1 else fl) else (if fl < 2 then fl + 2 else fl)
def flG (fl i : Nat) : Nat := if i = 0 then fl % 2 else fl / 2
theorem flS_eq {fl i : Nat} (h1 : fl < 4) (h2 : i < 2) : nI fl ||| (nI 1 <<< (nI i &&& 31)) = nI (flS fl i) := by
  rcases (show fl = 0 ∨ fl = 1 ∨ fl = 2 ∨ fl = 3 by omega) with rfl | rfl | rfl | rfl <;> rcases (show i = 0 ∨ i = 1 by omega) with rfl | rfl <;> decide
theorem flG_eq {fl i : Nat} (h1 : fl < 4) (h2 : i < 2) : (nI fl >>> (nI i &&& 31)) &&& nI 1 = nI (flG fl i) := by
  rcases (show fl = 0 ∨ fl = 1 ∨ fl = 2 ∨ fl = 3 by omega) with rfl | rfl | rfl | rfl <;> rcases (show i = 0 ∨ i = 1 by omega) with rfl | rfl <;> decide
def setI (S : AS) (im : Nat → Nat) (fl : Nat) : AS := (S.1, S.2.1, S.2.2.1, im, fl, S.2.2.2.2.2)
def aKee (u : Nat → Nat) (v : Int32) : Int32 := if inR 0 1 v then nI (wgs u (u 4)) else -1
def nKee (S : AS) (v : Int32) : AS := if inR 0 1 v then setI S (va_cpy S.1 S.2.2.2.1 0 (131 * tOf v) 131) (flS S.2.2.2.2.1 (tOf v)) else S
def bakU (u im : Nat → Nat) (i : Nat) : Nat → Nat := va_cpy im u (131 * i) 0 131
def aBak (u im : Nat → Nat) (fl : Nat) (v : Int32) : Int32 := if inR 0 1 v then (if flG fl (tOf v) = 0 then -2 else nI (wgs (bakU u im (tOf v)) (bakU u im (tOf v) 4))) else -1
def nBak (S : AS) (v : Int32) : AS := if inR 0 1 v ∧ flG S.2.2.2.2.1 (tOf v) ≠ 0 then chg S (bakU S.1 S.2.2.2.1 (tOf v)) else S
-- what is told
def aSti (u : Nat → Nat) (v : Int32) : Int32 := if inR 0 3 v then nI (u (tOf v)) else -1
def aTra (u : Nat → Nat) (v : Int32) : Int32 := if ¬ 0 ≤ v then -1 else if ¬ nI (u 12) ≤ v then nI (u (13 + tOf v)) else -9
def aWag (u : Nat → Nat) (v p q : Int32) : Int32 := if inR 0 (u 4 - 1) v ∧ ¬ p < 0 ∧ inR 0 2 q then (if ¬ nI (mny u (tOf v)) ≤ p then nI (u (23 + 27 * tOf v + (3 + 3 * tOf p + tOf q))) else -9) else -1
def unsN (u : Nat → Nat) : Nat → Nat
  | 0 => 0
  | n + 1 => unsN u n + (if u 0 ≤ gap (kds u n (mny u n)) then 0 else 1)
def spr (u : Nat → Nat) : Nat → Nat
  | 0 => 0
  | n + 1 => spr u n + (if 0 < bnt u n then 1 else 0)
/-- the reference's search for the track that is made up: 4 none yet, 5 it can't be -/
def mufS (u : Nat → Nat) : Nat → Nat
  | 0 => 4
  | n + 1 => if mufS u n = 5 then 5 else if bnt u n = 0 then mufS u n else if mufS u n ≠ 4 ∨ bnt u n < mny u n then 5 else n
def muf (u : Nat → Nat) : Int32 := if u 12 = 0 then -9 else if mufS u (u 4) < 4 then nI (mufS u (u 4)) else -9
def tolN (S : AS) (k : Nat) : Int32 := match k with
  | 0 => nI (S.1 4) | 1 => nI (S.1 5) | 2 => nI (S.1 6) | 3 => nI (wgs S.1 (S.1 4)) | 4 => nI (S.1 12) | 5 => nI (unsN S.1 (S.1 4)) | 6 => nI (S.1 8) | 7 => nI (S.1 9)
  | 8 => nI (S.1 10) | 9 => nI (S.1 11) | 10 => nI (S.1 7) | 11 => S.2.2.2.2.2.2.2.2.2 | 12 => muf S.1 | 13 => nI S.2.2.2.2.2.2.1 | _ => nI S.2.2.1
def aTol (S : AS) (v : Int32) : Int32 := if inR 0 14 v then tolN S (tOf v) else -1
def trkN (u : Nat → Nat) (t k : Nat) : Int32 := match k with
  | 0 => nI (mny u t) | 1 => (if u 0 ≤ gap (kds u t (mny u t)) then nI 1 else nI 0) | 2 => nI (hold u t) | 3 => encG (gap (kds u t (mny u t))) | _ => nI (rea u t)
def aTrk (u : Nat → Nat) (v w : Int32) : Int32 := if inR 0 (u 4 - 1) v ∧ inR 0 4 w then trkN u (tOf v) (tOf w) else -1
/-- where a wagon is: the first of the first n tracks, the first of its first k places -/
def fnP (u : Nat → Nat) (v : Int32) (t : Nat) : Nat → Option Nat
  | 0 => none
  | k + 1 => match fnP u v t k with
    | some z => some z
    | none => if nI (num u t k) = v then some k else none
def fnT (u : Nat → Nat) (v : Int32) : Nat → Option (Nat × Nat)
  | 0 => none
  | n + 1 => match fnT u v n with
    | some z => some z
    | none => match fnP u v n (mny u n) with
      | some k => some (n, k)
      | none => none
def aFin (u : Nat → Nat) (v w : Int32) : Int32 := if ¬ v < 0 ∧ inR 0 1 w then (match fnT u v (u 4) with | some z => if w = 0 then nI z.1 else nI z.2 | none => -9) else -1
theorem rea_le (u : Nat → Nat) (t : Nat) : rea u t ≤ 6 := by
  unfold rea
  repeat' split
  all_goals omega
theorem rea_12 {u : Nat → Nat} {t : Nat} (h : rea u t = 0) : 1 ≤ u 12 := by
  unfold rea at h
  rcases Nat.eq_zero_or_pos (u 12) with z | z
  · rw [if_pos z] at h
    exact absurd h (by decide)
  · exact z
theorem put0_lo {u : Nat → Nat} {t j : Nat} (_ : t < 4) (h : j < 23) {z : Nat} : va_up (va_up u (23 + 27 * t + 0) 0) (23 + 27 * t + 1) z j = u j := by
  unfold va_up
  rw [if_neg (by omega), if_neg (by omega)]
theorem dep4_12 {u : Nat → Nat} {t : Nat} : dep4 u t 12 = u 12 := by
  unfold dep4 va_up
  rw [if_neg (by decide), if_neg (by decide), if_neg (by omega), if_neg (by omega)]
theorem depL_12 {u : Nat → Nat} {t k : Nat} : depL u t k 12 = u 12 := by
  unfold depL
  rw [pk_cpy_out (by omega)]
  exact dep4_12
theorem set_no {v : Int32} (h : ¬ (nI 0 ≤ v ∧ v ≤ nI 2)) (h3 : ¬ v = nI 3) (z : inR 0 3 v) : False := by
  obtain ⟨k, k0, k1, rfl⟩ := rngN (by omega) z
  rcases (show k ≤ 2 ∨ k = 3 by omega) with q | q
  · exact h (inR_nI (by omega) q (by omega))
  · exact h3 (by rw [q])
theorem setHi_le (t : Nat) : setHi t ≤ 600 := by
  unfold setHi
  split <;> omega
theorem setLo_le (t : Nat) : setLo t ≤ setHi t := by
  unfold setLo setHi
  split <;> simp
