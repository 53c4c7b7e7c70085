/-! a row of yards, each there or not, as the class keeps its past and its images -/
abbrev YT : Type := (Nat → Nat) × (Nat → Nat) × (Nat → Nat) × (Nat → Nat) × (Nat → Nat) × (Nat → Int32) × Nat × Nat × Nat × Nat × Nat × Nat × Nat × Nat × Nat × Nat × Nat × Nat
def YWo (cI : ClassId) (o : Option YT) : va_W := match o with
  | none => []
  | some (a, st, ds, le, wg, te, K, C, ck, mv, mm, tg, gn, wc, tn, g1, g2, g3) => YW cI a st ds le wg te K C ck mv mm tg gn wc tn g1 g2 g3
def adO (o : Option YT) : Option Nat := match o with
  | none => none
  | some y => some (y.1 0)
def HSW (cI : ClassId) (hs : Nat → Option YT) : Nat → va_W
  | 0 => []
  | k + 1 => HSW cI hs k ++ YWo cI (hs k)
def setO (hs : Nat → Option YT) (i : Nat) (o : Option YT) : Nat → Option YT := fun k => if k = i then o else hs k
theorem HSW_congr {cI : ClassId} {hs h2 : Nat → Option YT} (n : Nat) (h : ∀ k, k < n → hs k = h2 k) : HSW cI hs n = HSW cI h2 n := by
  induction n with
  | zero => rfl
  | succ n ih =>
    unfold HSW
    rw [ih (fun k hk => h k (by omega)), h n (by omega)]
theorem hs_in {cI : ClassId} {hs : Nat → Option YT} {i n : Nat} {o : Option YT} (hi : i < n) : (YWo cI o ++ HSW cI (setO hs i none) n).Perm (HSW cI (setO hs i o) n) := by
  induction n with
  | zero => omega
  | succ n ih =>
    unfold HSW
    by_cases e : i = n
    · subst e
      rw [show setO hs i none i = none from if_pos rfl, show setO hs i o i = o from if_pos rfl]
      rw [HSW_congr (h2 := setO hs i o) i (fun k hk => by unfold setO; rw [if_neg (by omega), if_neg (by omega)])]
      show (YWo cI o ++ (HSW cI (setO hs i o) i ++ [])).Perm _
      rw [List.append_nil]
      exact List.perm_append_comm
    · rw [show setO hs i none n = hs n from if_neg (fun z => e z.symm), show setO hs i o n = hs n from if_neg (fun z => e z.symm), ← List.append_assoc]
      exact List.Perm.append_right _ (ih (by omega))
theorem setO_id {hs : Nat → Option YT} {i : Nat} {o : Option YT} (h : hs i = o) : setO hs i o = hs := by
  funext k
  unfold setO
  split
  · rename_i e; rw [e, h]
  · rfl
theorem hs_out {cI : ClassId} {hs : Nat → Option YT} {i n : Nat} {o : Option YT} (h : hs i = o) (hi : i < n) : (YWo cI o ++ HSW cI (setO hs i none) n).Perm (HSW cI hs n) := by
  have := hs_in (cI := cI) (hs := hs) (o := o) hi
  rw [setO_id h] at this
  exact this
/-- a yard beside a row of the reference -/
def YRel (y : YT) (u : Nat → Nat) : Prop := match y with
  | (_, st, ds, le, wg, te, K, C, ck, mv, mm, tg, gn, wc, tn, _, _, _) => YA u st ds le wg ∧ K = u 4 ∧ C = u 5 ∧ tn = u 12 ∧ ck = u 6 ∧ mv = u 8 ∧ mm = u 9 ∧ tg = u 10 ∧ gn = u 11 ∧ wc = u 7 ∧ ∀ t, t < u 4 → te t = if tst u t = 0 then -1 else nI (tat u t)
theorem YRel_cpy {u st ds le wg st2 ds2 le2 wg2 a b : Nat → Nat} {te te2 : Nat → Int32} {K C ck mv mm tg gn wc tn g1 g2 g3 h1 h2 h3 : Nat} (h : YRel (a, st, ds, le, wg, te, K, C, ck, mv, mm, tg, gn, wc, tn, g1, g2, g3) u) (hG : GU u) : YRel (b, va_cpy st st2 0 0 4, va_cpy ds ds2 0 0 10, va_cpy le le2 0 0 4, va_cpy wg wg2 0 0 32, va_cpy te te2 0 0 4, K, C, ck, mv, mm, tg, gn, wc, tn, h1, h2, h3) u := by
  obtain ⟨hY, r1, r2, r3, r4, r5, r6, r7, r8, r9, r10⟩ := h
  have h4 := hG.1
  refine ⟨YA_cpy hY hG, r1, r2, r3, r4, r5, r6, r7, r8, r9, fun t ht => ?_⟩
  rw [cpyF (by omega)]
  exact r10 t ht
