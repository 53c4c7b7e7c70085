/-! the worlds, and the words for a yard: u is the reference's own row of 131 ints, as naturals -/
def mny (u : Nat → Nat) (t : Nat) : Nat := u (23 + 27 * t + 0)
def tst (u : Nat → Nat) (t : Nat) : Nat := u (23 + 27 * t + 1)
def tat (u : Nat → Nat) (t : Nat) : Nat := u (23 + 27 * t + 2)
def num (u : Nat → Nat) (t k : Nat) : Nat := u (23 + 27 * t + (3 + 3 * k))
def dst (u : Nat → Nat) (t k : Nat) : Nat := u (23 + 27 * t + (3 + 3 * k + 1))
def knd (u : Nat → Nat) (t k : Nat) : Nat := u (23 + 27 * t + (3 + 3 * k + 2))
/-- the wagons of the first tracks -/
def wgs (u : Nat → Nat) : Nat → Nat
  | 0 => 0
  | n + 1 => wgs u n + mny u n
/-- gaps: (least so far, 99 where none; the latest dangerous kind, 0 where none; the common ones since) -/
def gstep (s : Nat × Nat × Nat) (k : Nat) : Nat × Nat × Nat := if k = 0 then (s.1, s.2.1, s.2.2 + 1) else (if s.2.1 ≠ 0 ∧ s.2.1 ≠ k then Nat.min s.1 s.2.2 else s.1, k, 0)
def gfold (l : List Nat) : Nat × Nat × Nat := l.foldl gstep (99, 0, 0)
def gap (l : List Nat) : Nat := (gfold l).1
/-- the kinds of the first n wagons of a track; of those from i on, n of them -/
def kds (u : Nat → Nat) (t n : Nat) : List Nat := (List.range n).map (knd u t)
def kdf (u : Nat → Nat) (t i n : Nat) : List Nat := (List.range n).map (fun j => knd u t (i + j))
def MW (cI : ClassId) (a : Nat → Nat) (u pa im tx rw rb rk rt he tr be sp : Nat → Nat) (pm fl ln rm rd bn : Nat) (fk fp rs wk wp bm : Int32) : va_W :=
  [(a 0, .inr (7, [.ref (a 1), .ref (a 2), .int (nI pm), .ref (a 3), .int (nI fl), .ref (a 4), .int (nI ln), .int fk, .int fp, .int rs, .ref (a 5), .int (nI rm), .int (nI rd), .ref (a 6), .ref (a 7), .ref (a 8), .int wk, .int wp, .ref (a 9), .ref (a 10), .ref (a 11), .int bm, .int (nI bn), .ref (a 12)])),
   (a 1, .inl (cI, 131, .inl (aN u))), (a 2, .inl (cI, 1048, .inl (aN pa))), (a 3, .inl (cI, 262, .inl (aN im))), (a 4, .inl (cI, 60, .inl (aN tx))), (a 5, .inl (cI, 24, .inl (aN rw))), (a 6, .inl (cI, 8, .inl (aN rb))), (a 7, .inl (cI, 8, .inl (aN rk))), (a 8, .inl (cI, 10, .inl (aN rt))), (a 9, .inl (cI, 524, .inl (aN he))), (a 10, .inl (cI, 9, .inl (aN tr))), (a 11, .inl (cI, 9, .inl (aN be))), (a 12, .inl (cI, 4, .inl (aN sp)))]
def GW (a : Nat) (g1 g2 g3 : Nat) : va_W := [(a, .inr (0, [.int (nI g1), .int (nI g2), .int (nI g3)]))]
def YW (cI : ClassId) (a : Nat → Nat) (st ds le wg : Nat → Nat) (te : Nat → Int32) (K C ck mv mm tg gn wc tn : Nat) (g1 g2 g3 : Nat) : va_W :=
  [(a 0, .inr (5, [.int (nI K), .int (nI C), .int (nI ck), .int (nI mv), .int (nI mm), .int (nI tg), .int (nI gn), .int (nI wc), .int (nI tn), .ref (a 1), .ref (a 2), .ref (a 3), .ref (a 4), .ref (a 5), .ref (a 6)])),
   (a 1, .inl (cI, 4, .inl (aN st))), (a 2, .inl (cI, 10, .inl (aN ds))), (a 3, .inl (cI, 4, .inl (aN le))), (a 4, .inl (cI, 4, .inl te)), (a 5, .inl (cI, 32, .inl (aN wg))), (a 6, .inr (0, [.int (nI g1), .int (nI g2), .int (nI g3)]))]
theorem nq_in1 {v lo hi : Int32} (h1 : ¬ v < lo) (h2 : ¬ hi < v) : nI 1 = if lo ≤ v ∧ v ≤ hi then nI 1 else nI 0 := by rw [if_pos ⟨Int32.not_lt.mp h1, Int32.not_lt.mp h2⟩]
theorem nq_in2 {v lo hi : Int32} (h1 : v < lo) : nI 0 = if lo ≤ v ∧ v ≤ hi then nI 1 else nI 0 := by rw [if_neg (fun h => Int32.not_le.mpr h1 h.1)]
theorem nq_in3 {v lo hi : Int32} (h2 : hi < v) : nI 0 = if lo ≤ v ∧ v ≤ hi then nI 1 else nI 0 := by rw [if_neg (fun h => Int32.not_le.mpr h2 h.2)]
/-! rows of kinds, gaps, copies -/
def rowL (r : Nat → Nat) (n : Nat) : List Nat := (List.range n).map r
theorem rowL_succ (r : Nat → Nat) (n : Nat) : rowL r (n + 1) = rowL r n ++ [r n] := by simp [rowL, List.range_succ]
theorem rowL_congr {r r2 : Nat → Nat} {n : Nat} (h : ∀ j, j < n → r j = r2 j) : rowL r n = rowL r2 n := by
  unfold rowL
  exact List.map_congr_left fun j hj => h j (List.mem_range.mp hj)
theorem rowL_up (r : Nat → Nat) (n k : Nat) : rowL (va_up r n k) (n + 1) = rowL r n ++ [k] := by
  rw [rowL_succ, show va_up r n k n = k from by simp [va_up], rowL_congr (r2 := r) fun j hj => by simp [va_up, Nat.ne_of_lt hj]]
theorem kds_succ (u : Nat → Nat) (t n : Nat) : kds u t (n + 1) = kds u t n ++ [knd u t n] := by simp [kds, List.range_succ]
theorem kdf_succ (u : Nat → Nat) (t i n : Nat) : kdf u t i (n + 1) = kdf u t i n ++ [knd u t (i + n)] := by simp [kdf, List.range_succ]
theorem gfold_app (l : List Nat) (k : Nat) : gfold (l ++ [k]) = gstep (gfold l) k := by simp [gfold]
theorem gstep_le {s : Nat × Nat × Nat} {k : Nat} (h : s.1 ≤ 99) : (gstep s k).1 ≤ 99 := by
  unfold gstep
  split
  · exact h
  · show (if _ then Nat.min s.1 s.2.2 else s.1) ≤ 99
    split
    · exact Nat.le_trans (Nat.min_le_left _ _) h
    · exact h
theorem foldl_le (l : List Nat) : ∀ s : Nat × Nat × Nat, s.1 ≤ 99 → (l.foldl gstep s).1 ≤ 99 := by
  induction l with
  | nil => exact fun _ h => h
  | cons k l ih => exact fun s h => ih _ (gstep_le h)
theorem gap_le (l : List Nat) : gap l ≤ 99 := foldl_le l _ (Nat.le_refl _)
def encG (n : Nat) : Int32 := if n = 99 then -9 else nI n
theorem encG_99 : encG 99 = -9 := rfl
theorem encG_ne {n : Nat} (h : ¬ encG n = -9) : encG n = nI n := by
  unfold encG at h ⊢
  by_cases e : n = 99
  · exact absurd (by rw [if_pos e]) h
  · rw [if_neg e]
theorem nI_m9 {n : Nat} (h : n < 2147483648) : ¬ nI n = -9 := by
  intro e
  have := congrArg Int32.toInt e
  rw [nI_toInt h] at this
  have h9 : (-9 : Int32).toInt = -9 := by decide
  omega
theorem encG_eq {n : Nat} (hn : n ≤ 99) (h : encG n = -9) : n = 99 := by
  unfold encG at h
  by_cases e : n = 99
  · exact e
  · rw [if_neg e] at h
    exact absurd h (nI_m9 (by omega))
theorem cpy_zero (f g : Nat → Nat) (sp dp : Nat) : g = va_cpy f g sp dp 0 := by
  funext j
  unfold va_cpy
  rw [if_neg (by omega)]
theorem cpy_step {f g : Nat → Nat} {sp dp k i v : Nat} (hi : i = dp + k) (hv : v = f (sp + k)) : va_up (va_cpy f g sp dp k) i v = va_cpy f g sp dp (k + 1) := by
  subst hi; subst hv
  funext j
  by_cases h : j = dp + k
  · subst h
    simp only [va_up, if_true]
    rw [pk_cpy_in (by omega) (by omega), show dp + k - dp = k by omega]
  · simp only [va_up, if_neg h]
    by_cases h2 : dp ≤ j ∧ j < dp + k
    · rw [pk_cpy_in h2.1 h2.2, pk_cpy_in h2.1 (by omega)]
    · rw [pk_cpy_out (by omega), pk_cpy_out (by omega)]
/-- wagons of a track that go to a destination, among its first n -/
def bnd (u : Nat → Nat) (t d : Nat) : Nat → Nat
  | 0 => 0
  | n + 1 => bnd u t d n + (if dst u t n = d then 1 else 0)
theorem bnd_le (u : Nat → Nat) (t d n : Nat) : bnd u t d n ≤ n := by
  induction n with
  | zero => exact Nat.le_refl _
  | succ n ih => unfold bnd; split <;> omega
def hold (u : Nat → Nat) (t : Nat) : Nat := if tst u t = 0 then 0 else u 1 - (u 6 - tat u t)
def safe (u : Nat → Nat) (t : Nat) : Prop := u 0 ≤ gap (kds u t (mny u t))
def bnt (u : Nat → Nat) (t : Nat) : Nat := bnd u t (u 13) (mny u t)
/-- the first of the tracks before n, other than t, on which a wagon of the next train stands: whether there is one -/
def oth (u : Nat → Nat) (t : Nat) : Nat → Bool
  | 0 => false
  | n + 1 => oth u t n || (decide (n ≠ t) && decide (0 < bnt u n))
def rea (u : Nat → Nat) (t : Nat) : Nat := if u 12 = 0 then 1 else if mny u t = 0 then 2 else if bnt u t < mny u t then 3 else if oth u t (u 4) = true then 4 else if ¬ u 0 ≤ gap (kds u t (mny u t)) then 5 else if hold u t = 0 then 6 else 0
def mins (u : Nat → Nat) (f t n : Nat) : Nat := u 2 + n + 2 * (if t < f then f - t else t - f) + (if 2 ∈ kdf u f (mny u f - n) n then 5 else 0)
def costI (u : Nat → Nat) (f t n : Nat) : Int32 := if mny u f < n then -2 else if ¬ u 0 ≤ gap (kds u f (mny u f - n)) then -2 else if ¬ u 0 ≤ gap (kds u t (mny u t) ++ kdf u f (mny u f - n) n) then -2 else if u 5 < mny u t + n then -3 else nI (mins u f t n)
def carB (u : Nat → Nat) (f t n k : Nat) : Nat → Nat := va_cpy u u (23 + 27 * f + (3 + 3 * (mny u f - n))) (23 + 27 * t + (3 + 3 * mny u t)) k
def car4 (u : Nat → Nat) (f t n : Nat) : Nat → Nat := va_up (va_up (va_up (va_up (carB u f t n (3 * n)) (23 + 27 * f + 0) (mny u f - n)) (23 + 27 * t + 0) (mny u t + n)) (23 + 27 * f + 1) 0) (23 + 27 * t + 1) 0
def carU (u : Nat → Nat) (f t n m : Nat) : Nat → Nat := va_up (va_up (va_up (car4 u f t n) 6 (u 6 + m)) 8 (u 8 + 1)) 9 (u 9 + m)
def remP (u pa : Nat → Nat) (pm : Nat) : Nat → Nat := if pm = 8 then va_cpy u (va_cpy pa pa 131 0 917) 0 917 131 else va_cpy u pa 0 (131 * pm) 131
def remN (pm : Nat) : Nat := if pm = 8 then 8 else pm + 1
theorem ior_1 {n : Nat} (h : n < 2) : nI n ||| nI 1 = nI 1 := by
  rcases (show n = 0 ∨ n = 1 by omega) with rfl | rfl <;> decide
theorem ior_0 {n : Nat} (h : n < 2) : nI n ||| nI 0 = nI n := by
  rcases (show n = 0 ∨ n = 1 by omega) with rfl | rfl <;> decide
theorem sub_le {a b : Nat} (ha : a < 1073741824) (hb : b < 1073741824) (h : 0 ≤ nI a - nI b) : b ≤ a := by
  rcases Nat.lt_or_ge a b with z | z
  · exact absurd h (Int32.not_le.mpr (pk_sneg (by omega) z))
  · exact z
theorem sub_lt {a b : Nat} (ha : a < 1073741824) (hb : b < 1073741824) (h : ¬ 0 ≤ nI a - nI b) : a ≤ b := by
  rcases Nat.lt_or_ge b a with z | z
  · rw [pk_sub (Nat.le_of_lt z)] at h
    exact absurd (nI_pos' (by omega)) h
  · exact z
/-- a raw int in a range of naturals -/
theorem rngN {v : Int32} {lo hi : Nat} (hh : hi < 2147483648) (h : nI lo ≤ v ∧ v ≤ nI hi) (hl : lo ≤ hi := by omega) : ∃ k, lo ≤ k ∧ k ≤ hi ∧ v = nI k := by
  have h0 : ¬ v < 0 := by
    intro z
    have h1 := Int32.le_iff_toInt_le.mp h.1
    have h2 := Int32.lt_iff_toInt_lt.mp z
    rw [nI_toInt (by omega)] at h1
    have h3 : (0 : Int32).toInt = 0 := by decide
    omega
  obtain ⟨k, hk, rfl⟩ := nI_of h0
  exact ⟨k, (nI_leI (by omega) hk).mp h.1, (nI_leI hk hh).mp h.2, rfl⟩
/-! the reference's search for the least gap, step by step -/
theorem gs0 {G : Nat × Nat × Nat} {k : Nat} (h : k = 0) : gstep G k = (G.1, G.2.1, G.2.2 + 1) := by simp [gstep, h]
theorem gsA {G : Nat × Nat × Nat} {k : Nat} (h : k ≠ 0) (h2 : G.2.1 = 0 ∨ G.2.1 = k) : gstep G k = (G.1, k, 0) := by
  unfold gstep
  rw [if_neg h, if_neg (by rintro ⟨a, b⟩; rcases h2 with z | z; exact a z; exact b z)]
theorem gsB {G : Nat × Nat × Nat} {k : Nat} (h : k ≠ 0) (h2 : G.2.1 ≠ 0) (h3 : G.2.1 ≠ k) : gstep G k = (Nat.min G.1 G.2.2, k, 0) := by
  unfold gstep
  rw [if_neg h, if_pos ⟨h2, h3⟩]
def lgE (n : Nat) (le : Int32) : Prop := (n = 99 ∧ le = -9) ∨ (n < 99 ∧ le = nI n)
def lgA (rw : Nat → Nat) (q : Nat) (G : Nat × Nat × Nat) (la : Int32) : Prop := (G.2.1 = 0 ∧ la = -9 ∧ G.2.2 ≤ q) ∨ (∃ j, j < q ∧ la = nI j ∧ rw j = G.2.1 ∧ G.2.1 ≠ 0 ∧ G.2.2 = q - 1 - j)
theorem lg_some {rw : Nat → Nat} {q : Nat} {G : Nat × Nat × Nat} {la : Int32} (h : lgA rw q G la) (hn : ¬ la = -9) : ∃ j, j < q ∧ la = nI j ∧ rw j = G.2.1 ∧ G.2.1 ≠ 0 ∧ G.2.2 = q - 1 - j := by
  rcases h with ⟨-, h, -⟩ | h
  · exact absurd h hn
  · exact h
theorem lg_lt {n : Nat} {le : Int32} (h : lgE n le) (hn : ¬ le = -9) : n < 99 ∧ le = nI n := by
  rcases h with ⟨-, h⟩ | h
  · exact absurd h hn
  · exact h
theorem lg_99 {n : Nat} {le : Int32} (h : lgE n le) (hn : le = -9) : n = 99 := by
  rcases h with ⟨h, -⟩ | ⟨h1, h2⟩
  · exact h
  · exact absurd (h2.symm.trans hn) (nI_m9 (by omega))
theorem lg_b0 {G : Nat × Nat × Nat} {k : Nat} {le : Int32} (hz : k = 0) (h : lgE G.1 le) : lgE (gstep G k).1 le := by rw [gs0 hz]; exact h
theorem lg_bA {G : Nat × Nat × Nat} {k : Nat} {le : Int32} (hz : k ≠ 0) (h2 : G.2.1 = 0 ∨ G.2.1 = k) (h : lgE G.1 le) : lgE (gstep G k).1 le := by rw [gsA hz h2]; exact h
theorem lg_z {rw : Nat → Nat} {q : Nat} {G : Nat × Nat × Nat} {la : Int32} (h : lgA rw q G la) (hn : la = -9) (hq : q ≤ 24) : G.2.1 = 0 := by
  rcases h with ⟨h, -, -⟩ | ⟨j, h1, h2, -⟩
  · exact h
  · exact absurd (h2.symm.trans hn) (nI_m9 (by omega))
theorem lg_bB {G : Nat × Nat × Nat} {k n : Nat} (hz : k ≠ 0) (h2 : G.2.1 ≠ 0) (h3 : G.2.1 ≠ k) (hn : Nat.min G.1 G.2.2 = n) (h : n < 99) : lgE (gstep G k).1 (nI n) := by rw [gsB hz h2 h3]; exact Or.inr ⟨hn ▸ h, by rw [hn]⟩
theorem lg_c0 {rw : Nat → Nat} {q : Nat} {G : Nat × Nat × Nat} {la : Int32} (hz : rw q = 0) (h : lgA rw q G la) : lgA rw (q + 1) (gstep G (rw q)) la := by
  rw [gs0 hz]
  rcases h with ⟨h1, h2, h3⟩ | ⟨j, h1, h2, h3, h4, h5⟩
  · exact Or.inl ⟨h1, h2, Nat.succ_le_succ h3⟩
  · exact Or.inr ⟨j, by omega, h2, h3, h4, by show G.2.2 + 1 = _; omega⟩
theorem gs21 {G : Nat × Nat × Nat} {k : Nat} (h : k ≠ 0) : (gstep G k).2.1 = k ∧ (gstep G k).2.2 = 0 := by
  unfold gstep
  rw [if_neg h]
  exact ⟨rfl, rfl⟩
theorem lg_c1 {rw : Nat → Nat} {q : Nat} {G : Nat × Nat × Nat} (hz : rw q ≠ 0) : lgA rw (q + 1) (gstep G (rw q)) (nI q) := Or.inr ⟨q, by omega, rfl, (gs21 hz).1.symm, by rw [(gs21 hz).1]; exact hz, by rw [(gs21 hz).2]; omega⟩
theorem lg_end {L : List Nat} {le : Int32} (h : lgE (gfold L).1 le) : le = encG (gap L) := by
  rcases h with ⟨h1, h2⟩ | ⟨h1, h2⟩
  · rw [h2, show gap L = 99 from h1]; rfl
  · rw [h2, show encG (gap L) = nI (gap L) from if_neg (Nat.ne_of_lt h1)]; rfl
theorem rowL_lt {r : Nat → Nat} {n : Nat} {u : Nat → Nat} {t : Nat} (h : rowL r n = kds u t n) (hk : ∀ z, z < n → knd u t z < 3) {j : Nat} (hj : j < n) : r j < 3 := by
  have h1 : (rowL r n)[j]? = some (r j) := by simp [rowL, hj]
  rw [h] at h1
  have h2 : (kds u t n)[j]? = some (knd u t j) := by simp [kds, hj]
  rw [h2] at h1
  have := hk j hj
  have e := Option.some.inj h1
  omega
theorem rowL_lt2 {r : Nat → Nat} {a b i : Nat} {u : Nat → Nat} {t f : Nat} (h : rowL r (a + b) = kds u t a ++ kdf u f i b) (hk : ∀ z, z < a → knd u t z < 3) (hk2 : ∀ z, z < b → knd u f (i + z) < 3) {j : Nat} (hj : j < a + b) : r j < 3 := by
  have h1 : (rowL r (a + b))[j]? = some (r j) := by simp [rowL, hj]
  rw [h] at h1
  by_cases hz : j < a
  · have h2 : (kds u t a ++ kdf u f i b)[j]? = some (knd u t j) := by
      rw [List.getElem?_append_left (by simp [kds, hz])]
      simp [kds, hz]
    rw [h2] at h1
    have := hk j hz
    have e := Option.some.inj h1
    omega
  · have h2 : (kds u t a ++ kdf u f i b)[j]? = some (knd u f (i + (j - a))) := by
      rw [List.getElem?_append_right (by simp [kds]; omega)]
      simp [kds, kdf, show j - a < b by omega]
    rw [h2] at h1
    have := hk2 (j - a) (by omega)
    have e := Option.some.inj h1
    omega
theorem carB_o {u : Nat → Nat} {f t n k j : Nat} (h : j < 23 + 27 * t + (3 + 3 * mny u t) ∨ 23 + 27 * t + (3 + 3 * mny u t) + k ≤ j) (_ : True := trivial) : nI (carB u f t n k j) = nI (u j) := by
  unfold carB
  rw [pk_cpy_out h]
theorem carB_o2 {u : Nat → Nat} {f t n k x : Nat} (hne : f ≠ t) : mny (va_up (carB u f t n k) (23 + 27 * f + 0) x) t = mny u t := by
  unfold mny va_up
  rw [if_neg (by omega)]
  unfold carB
  rw [pk_cpy_out (by omega)]
theorem car4_lo {u : Nat → Nat} {f t n j : Nat} (h : j < 23) : car4 u f t n j = u j := by
  unfold car4 va_up
  rw [if_neg (by omega), if_neg (by omega), if_neg (by omega), if_neg (by omega)]
  unfold carB
  rw [pk_cpy_out (by omega)]
theorem oth_at {u : Nat → Nat} {t n q : Nat} (hq : q < n) (h1 : q ≠ t) (h2 : 0 < bnt u q) : oth u t n = true := by
  induction n with
  | zero => omega
  | succ n ih =>
    unfold oth
    by_cases h : q = n
    · subst h
      simp [h1, h2]
    · rw [ih (by omega)]
      rfl
theorem tab_out {v : Int32} {hi : Nat} (hh : hi < 2147483648) (h : ¬ (nI 0 ≤ v ∧ v ≤ nI hi)) : v.toInt < 0 ∨ (hi : Int) < v.toInt := by
  by_cases z : v.toInt < 0
  · exact Or.inl z
  · refine Or.inr ?_
    by_cases y : (hi : Int) < v.toInt
    · exact y
    · refine absurd ⟨?_, ?_⟩ h
      · rw [Int32.le_iff_toInt_le, nI_toInt (by decide)]; exact Int.not_lt.mp z
      · rw [Int32.le_iff_toInt_le, nI_toInt hh]; exact Int.not_lt.mp y
