/-! p27: two yards that are handled alike; a change that is undone -/
def EqS (S T : AS) : Prop := S.1 = T.1 ∧ S.2.2.2.1 = T.2.2.2.1 ∧ S.2.2.2.2.1 = T.2.2.2.2.1 ∧ S.2.2.2.2.2.1 = T.2.2.2.2.2.1 ∧ S.2.2.2.2.2.2.1 = T.2.2.2.2.2.2.1
theorem EqS.rf (S : AS) : EqS S S := ⟨rfl, rfl, rfl, rfl, rfl⟩
theorem EqS.sy {S T : AS} (h : EqS S T) : EqS T S := ⟨h.1.symm, h.2.1.symm, h.2.2.1.symm, h.2.2.2.1.symm, h.2.2.2.2.symm⟩
theorem EqS.tr {S T U : AS} (h : EqS S T) (k : EqS T U) : EqS S U := ⟨h.1.trans k.1, h.2.1.trans k.2.1, h.2.2.1.trans k.2.2.1, h.2.2.2.1.trans k.2.2.2.1, h.2.2.2.2.trans k.2.2.2.2⟩
/-- the calls of a turn that change a yard -/
abbrev Op : Type := Nat × Int32 × Int32 × Int32 × List Int32
def wrs (S : AS) (cs : List Int32) : AS := cs.foldl nWri S
theorem wrs_app (S : AS) (a b : List Int32) : wrs S (a ++ b) = wrs (wrs S a) b := List.foldl_append
def opA (S : AS) (o : Op) : Int32 := match o.1 with
  | 0 => aBeg S.1 o.2.1 o.2.2.1
  | 1 => aSet S.1 o.2.1 o.2.2.1
  | 2 => aLis (wrs (nWip S) o.2.2.2.2).2.2.2.2.2.1 (wrs (nWip S) o.2.2.2.2).2.2.2.2.2.2.1
  | 3 => aArr (wrs (nWip S) o.2.2.2.2).1 (wrs (nWip S) o.2.2.2.2).2.2.2.2.2.1 (wrs (nWip S) o.2.2.2.2).2.2.2.2.2.2.1 o.2.1
  | 4 => aTes S.1 o.2.1
  | 5 => aPau S.1 o.2.1
  | 6 => aDep S.1 o.2.1
  | 7 => aMak S.1 o.2.1
  | 8 => aKee S.1 o.2.1
  | 9 => aBak S.1 S.2.2.2.1 S.2.2.2.2.1 o.2.1
  | _ => aCos S.1 o.2.1 o.2.2.1 o.2.2.2.1
def opN (S : AS) (o : Op) : AS := match o.1 with
  | 0 => nBeg S o.2.1 o.2.2.1
  | 1 => nSet S o.2.1 o.2.2.1
  | 2 => nLis (wrs (nWip S) o.2.2.2.2)
  | 3 => nArr (wrs (nWip S) o.2.2.2.2) o.2.1
  | 4 => nTes S o.2.1
  | 5 => nPau S o.2.1
  | 6 => nDep S o.2.1
  | 7 => nMak S o.2.1
  | 8 => nKee S o.2.1
  | 9 => nBak S o.2.1
  | _ => nMov S o.2.1 o.2.2.1 o.2.2.2.1
theorem Eq_chg {S T : AS} (h : EqS S T) (u2 : Nat → Nat) : EqS (chg S u2) (chg T u2) := ⟨rfl, h.2.1, h.2.2.1, h.2.2.2.1, h.2.2.2.2⟩
theorem Eq_ite {p : Prop} [Decidable p] {S T S2 T2 : AS} (h : EqS S T) (k : EqS S2 T2) : EqS (if p then S else S2) (if p then T else T2) := by
  by_cases z : p
  · rw [if_pos z, if_pos z]; exact h
  · rw [if_neg z, if_neg z]; exact k
theorem Eq_wri {S T : AS} (h : EqS S T) (v : Int32) : EqS (nWri S v) (nWri T v) := by
  obtain ⟨u, pa, pm, im, fl, tx, ln, fk, fp, rs⟩ := S
  obtain ⟨u2, pa2, pm2, im2, fl2, tx2, ln2, fk2, fp2, rs2⟩ := T
  obtain ⟨h1, h2, h3, h4, h5⟩ := h
  dsimp only at h1 h2 h3 h4 h5
  subst h1 h2 h3 h4 h5
  exact Eq_ite ⟨rfl, rfl, rfl, rfl, rfl⟩ ⟨rfl, rfl, rfl, rfl, rfl⟩
theorem Eq_wip {S T : AS} (h : EqS S T) : EqS (nWip S) (nWip T) := ⟨h.1, h.2.1, h.2.2.1, h.2.2.2.1, rfl⟩
theorem Eq_wrs (cs : List Int32) : ∀ {S T : AS}, EqS S T → EqS (wrs S cs) (wrs T cs) := by
  induction cs with
  | nil => exact fun h => h
  | cons c cs ih => exact fun h => ih (Eq_wri h c)
theorem Eq_lis {S T : AS} (h : EqS S T) : EqS (nLis S) (nLis T) := by
  obtain ⟨u, pa, pm, im, fl, tx, ln, fk, fp, rs⟩ := S
  obtain ⟨u2, pa2, pm2, im2, fl2, tx2, ln2, fk2, fp2, rs2⟩ := T
  obtain ⟨h1, h2, h3, h4, h5⟩ := h
  dsimp only at h1 h2 h3 h4 h5
  subst h1 h2 h3 h4 h5
  exact Eq_ite ⟨rfl, rfl, rfl, rfl, rfl⟩ ⟨rfl, rfl, rfl, rfl, rfl⟩
theorem Eq_arr {S T : AS} (h : EqS S T) (v : Int32) : EqS (nArr S v) (nArr T v) := by
  obtain ⟨u, pa, pm, im, fl, tx, ln, fk, fp, rs⟩ := S
  obtain ⟨u2, pa2, pm2, im2, fl2, tx2, ln2, fk2, fp2, rs2⟩ := T
  obtain ⟨h1, h2, h3, h4, h5⟩ := h
  dsimp only at h1 h2 h3 h4 h5
  subst h1 h2 h3 h4 h5
  exact Eq_ite (Eq_ite ⟨rfl, rfl, rfl, rfl, rfl⟩ (Eq_ite ⟨rfl, rfl, rfl, rfl, rfl⟩ (Eq_ite ⟨rfl, rfl, rfl, rfl, rfl⟩ ⟨rfl, rfl, rfl, rfl, rfl⟩))) ⟨rfl, rfl, rfl, rfl, rfl⟩
theorem Eq_beg {S T : AS} (h : EqS S T) (v w : Int32) : EqS (nBeg S v w) (nBeg T v w) := by
  obtain ⟨u, pa, pm, im, fl, tx, ln, fk, fp, rs⟩ := S
  obtain ⟨u2, pa2, pm2, im2, fl2, tx2, ln2, fk2, fp2, rs2⟩ := T
  obtain ⟨h1, h2, h3, h4, h5⟩ := h
  dsimp only at h1 h2 h3 h4 h5
  subst h1 h2 h3 h4 h5
  unfold nBeg
  exact Eq_ite ⟨rfl, rfl, rfl, rfl, rfl⟩ ⟨rfl, rfl, rfl, rfl, rfl⟩
theorem Eq_set {S T : AS} (h : EqS S T) (v w : Int32) : EqS (nSet S v w) (nSet T v w) := by
  obtain ⟨u, pa, pm, im, fl, tx, ln, fk, fp, rs⟩ := S
  obtain ⟨u2, pa2, pm2, im2, fl2, tx2, ln2, fk2, fp2, rs2⟩ := T
  obtain ⟨h1, h2, h3, h4, h5⟩ := h
  dsimp only at h1 h2 h3 h4 h5
  subst h1 h2 h3 h4 h5
  unfold nSet
  exact Eq_ite ⟨rfl, rfl, rfl, rfl, rfl⟩ ⟨rfl, rfl, rfl, rfl, rfl⟩
theorem Eq_tes {S T : AS} (h : EqS S T) (v : Int32) : EqS (nTes S v) (nTes T v) := by
  obtain ⟨u, pa, pm, im, fl, tx, ln, fk, fp, rs⟩ := S
  obtain ⟨u2, pa2, pm2, im2, fl2, tx2, ln2, fk2, fp2, rs2⟩ := T
  obtain ⟨h1, h2, h3, h4, h5⟩ := h
  dsimp only at h1 h2 h3 h4 h5
  subst h1 h2 h3 h4 h5
  unfold nTes
  exact Eq_ite ⟨rfl, rfl, rfl, rfl, rfl⟩ ⟨rfl, rfl, rfl, rfl, rfl⟩
theorem Eq_pau {S T : AS} (h : EqS S T) (v : Int32) : EqS (nPau S v) (nPau T v) := by
  obtain ⟨u, pa, pm, im, fl, tx, ln, fk, fp, rs⟩ := S
  obtain ⟨u2, pa2, pm2, im2, fl2, tx2, ln2, fk2, fp2, rs2⟩ := T
  obtain ⟨h1, h2, h3, h4, h5⟩ := h
  dsimp only at h1 h2 h3 h4 h5
  subst h1 h2 h3 h4 h5
  unfold nPau
  exact Eq_ite ⟨rfl, rfl, rfl, rfl, rfl⟩ ⟨rfl, rfl, rfl, rfl, rfl⟩
theorem Eq_dep {S T : AS} (h : EqS S T) (v : Int32) : EqS (nDep S v) (nDep T v) := by
  obtain ⟨u, pa, pm, im, fl, tx, ln, fk, fp, rs⟩ := S
  obtain ⟨u2, pa2, pm2, im2, fl2, tx2, ln2, fk2, fp2, rs2⟩ := T
  obtain ⟨h1, h2, h3, h4, h5⟩ := h
  dsimp only at h1 h2 h3 h4 h5
  subst h1 h2 h3 h4 h5
  unfold nDep
  exact Eq_ite (Eq_ite ⟨rfl, rfl, rfl, rfl, rfl⟩ ⟨rfl, rfl, rfl, rfl, rfl⟩) ⟨rfl, rfl, rfl, rfl, rfl⟩
theorem Eq_kee {S T : AS} (h : EqS S T) (v : Int32) : EqS (nKee S v) (nKee T v) := by
  obtain ⟨u, pa, pm, im, fl, tx, ln, fk, fp, rs⟩ := S
  obtain ⟨u2, pa2, pm2, im2, fl2, tx2, ln2, fk2, fp2, rs2⟩ := T
  obtain ⟨h1, h2, h3, h4, h5⟩ := h
  dsimp only at h1 h2 h3 h4 h5
  subst h1 h2 h3 h4 h5
  unfold nKee
  exact Eq_ite ⟨rfl, rfl, rfl, rfl, rfl⟩ ⟨rfl, rfl, rfl, rfl, rfl⟩
theorem Eq_bak {S T : AS} (h : EqS S T) (v : Int32) : EqS (nBak S v) (nBak T v) := by
  obtain ⟨u, pa, pm, im, fl, tx, ln, fk, fp, rs⟩ := S
  obtain ⟨u2, pa2, pm2, im2, fl2, tx2, ln2, fk2, fp2, rs2⟩ := T
  obtain ⟨h1, h2, h3, h4, h5⟩ := h
  dsimp only at h1 h2 h3 h4 h5
  subst h1 h2 h3 h4 h5
  unfold nBak
  exact Eq_ite ⟨rfl, rfl, rfl, rfl, rfl⟩ ⟨rfl, rfl, rfl, rfl, rfl⟩
theorem Eq_mov {S T : AS} (h : EqS S T) (v w x : Int32) : EqS (nMov S v w x) (nMov T v w x) := by
  obtain ⟨u, pa, pm, im, fl, tx, ln, fk, fp, rs⟩ := S
  obtain ⟨u2, pa2, pm2, im2, fl2, tx2, ln2, fk2, fp2, rs2⟩ := T
  obtain ⟨h1, h2, h3, h4, h5⟩ := h
  dsimp only at h1 h2 h3 h4 h5
  subst h1 h2 h3 h4 h5
  unfold nMov
  exact Eq_ite ⟨rfl, rfl, rfl, rfl, rfl⟩ ⟨rfl, rfl, rfl, rfl, rfl⟩
theorem Eq_mak {S T : AS} (h : EqS S T) (v : Int32) : EqS (nMak S v) (nMak T v) := by
  obtain ⟨u, pa, pm, im, fl, tx, ln, fk, fp, rs⟩ := S
  obtain ⟨u2, pa2, pm2, im2, fl2, tx2, ln2, fk2, fp2, rs2⟩ := T
  obtain ⟨h1, h2, h3, h4, h5⟩ := h
  dsimp only at h1 h2 h3 h4 h5
  subst h1 h2 h3 h4 h5
  unfold nMak
  refine Eq_ite ?_ ⟨rfl, rfl, rfl, rfl, rfl⟩
  dsimp only
  cases vis (tOf v) u [] 0 none with
  | none => exact ⟨rfl, rfl, rfl, rfl, rfl⟩
  | some z => exact ⟨rfl, rfl, rfl, rfl, rfl⟩
theorem op_eq {S T : AS} (h : EqS S T) (o : Op) : opA S o = opA T o ∧ EqS (opN S o) (opN T o) := by
  obtain ⟨k, v, w, x, cs⟩ := o
  have k1 := Eq_wrs cs (Eq_wip h)
  match k with
  | 0 => exact ⟨by show aBeg S.1 v w = aBeg T.1 v w; rw [h.1], Eq_beg h v w⟩
  | 1 => exact ⟨by show aSet S.1 v w = aSet T.1 v w; rw [h.1], Eq_set h v w⟩
  | 2 => exact ⟨by show aLis _ _ = aLis _ _; rw [k1.2.2.2.1, k1.2.2.2.2], Eq_lis k1⟩
  | 3 => exact ⟨by show aArr _ _ _ v = aArr _ _ _ v; rw [k1.1, k1.2.2.2.1, k1.2.2.2.2], Eq_arr k1 v⟩
  | 4 => exact ⟨by show aTes S.1 v = aTes T.1 v; rw [h.1], Eq_tes h v⟩
  | 5 => exact ⟨by show aPau S.1 v = aPau T.1 v; rw [h.1], Eq_pau h v⟩
  | 6 => exact ⟨by show aDep S.1 v = aDep T.1 v; rw [h.1], Eq_dep h v⟩
  | 7 => exact ⟨by show aMak S.1 v = aMak T.1 v; rw [h.1], Eq_mak h v⟩
  | 8 => exact ⟨by show aKee S.1 v = aKee T.1 v; rw [h.1], Eq_kee h v⟩
  | 9 => exact ⟨by show aBak S.1 S.2.2.2.1 S.2.2.2.2.1 v = aBak T.1 T.2.2.2.1 T.2.2.2.2.1 v; rw [h.1, h.2.1, h.2.2.1], Eq_bak h v⟩
  | n + 10 => exact ⟨by show aCos S.1 v w x = aCos T.1 v w x; rw [h.1], Eq_mov h v w x⟩
theorem INV_wri0 {N : Nat} {S : AS} (h : INV N S) (v : Int32) : INV N (nWri S v) := by
  unfold nWri
  obtain ⟨a, b, c, d, e, f⟩ := h
  split
  · rename_i hc
    obtain ⟨k, k0, k1, rfl⟩ := rngN (by omega) hc.1
    rw [tOf_nI (by omega)]
    exact ⟨a, b, c, d, e, TR_up f (by have := f.1; have := hc.2; omega) (by omega)⟩
  · exact ⟨a, b, c, d, e, f⟩
theorem INV_wip0 {N : Nat} {S : AS} (h : INV N S) : INV N (nWip S) := by
  obtain ⟨a, b, c, d, e, f⟩ := h
  exact ⟨a, b, c, d, e, Nat.zero_le _, fun j hj => absurd hj (Nat.not_lt_zero _)⟩
theorem INV_wrs {N : Nat} (cs : List Int32) : ∀ {S : AS}, INV N S → INV N (wrs S cs) := by
  induction cs with
  | nil => exact fun h => h
  | cons c cs ih => exact fun h => ih (INV_wri0 h c)
theorem INV_op {N : Nat} {S : AS} (h : INV N S) (o : Op) : INV (N + 1) (opN S o) := by
  obtain ⟨k, v, w, x, cs⟩ := o
  match k with
  | 0 => exact INV_beg h v w
  | 1 => exact INV_set h v w
  | 2 => exact INV_lis (INV_wrs cs (INV_wip0 h))
  | 3 => exact INV_arr (INV_wrs cs (INV_wip0 h)) v
  | 4 => exact INV_tes h v
  | 5 => exact INV_pau h v
  | 6 => exact INV_dep h v
  | 7 => exact INV_mak h v
  | 8 => exact INV_kee h v
  | 9 => exact INV_bak h v
  | n + 10 => exact INV_mov h v w x
theorem wri_1 (S : AS) (v : Int32) : (nWri S v).1 = S.1 ∧ (nWri S v).2.2.2.1 = S.2.2.2.1 ∧ (nWri S v).2.2.2.2.1 = S.2.2.2.2.1 := by
  unfold nWri
  split
  · exact ⟨rfl, rfl, rfl⟩
  · exact ⟨rfl, rfl, rfl⟩
theorem wrs_1 (cs : List Int32) : ∀ (S : AS), (wrs S cs).1 = S.1 ∧ (wrs S cs).2.2.2.1 = S.2.2.2.1 ∧ (wrs S cs).2.2.2.2.1 = S.2.2.2.2.1 := by
  induction cs with
  | nil => exact fun _ => ⟨rfl, rfl, rfl⟩
  | cons c cs ih => exact fun S => ⟨(ih (nWri S c)).1.trans (wri_1 S c).1, (ih (nWri S c)).2.1.trans (wri_1 S c).2.1, (ih (nWri S c)).2.2.trans (wri_1 S c).2.2⟩
/-- a change that is undone -/
theorem remN_pos (pm : Nat) : 1 ≤ remN pm := by unfold remN; split <;> omega
theorem und_u {u pa u2 : Nat → Nat} {pm : Nat} (h : ∀ j, 131 ≤ j → u2 j = u j) : va_cpy (remP u pa pm) u2 (131 * (remN pm - 1)) 0 131 = u := by
  funext j
  by_cases hj : j < 131
  · rw [pk_cpy_in (by omega) (by omega)]
    unfold remP remN
    by_cases e : pm = 8
    · rw [if_pos e, if_pos e, pk_cpy_in (by omega) (by omega)]
      exact congrArg u (by omega)
    · rw [if_neg e, if_neg e, pk_cpy_in (by omega) (by omega)]
      exact congrArg u (by omega)
  · rw [pk_cpy_out (by omega)]
    exact h j (by omega)
theorem und_back {N : Nat} {S : AS} {u2 : Nat → Nat} (hI : INV N S) (h : ∀ j, 131 ≤ j → u2 j = S.1 j) : EqS S (nUnd (chg S u2)) ∧ INV N (nUnd (chg S u2)) ∧ aUnd (chg S u2).2.2.1 = nI (remN S.2.2.1 - 1) ∧ remN S.2.2.1 ≤ 8 ∧ (nUnd (chg S u2)).2.2.2.2.2.2.2.2.2 = S.2.2.2.2.2.2.2.2.2 := by
  obtain ⟨u, pa, pm, im, fl, tx, ln, fk, fp, rs⟩ := S
  obtain ⟨a, b, c, d, e, f⟩ := hI
  have h0 := remN_pos pm
  have e1 : nUnd (chg (u, pa, pm, im, fl, tx, ln, fk, fp, rs) u2) = (u, remP u pa pm, remN pm - 1, im, fl, tx, ln, fk, fp, rs) := by
    unfold nUnd chg
    dsimp only
    rw [if_neg (by omega), und_u h]
  have h8 : remN pm ≤ 8 := by unfold remN; split <;> (dsimp only at b; omega)
  rw [e1]
  refine ⟨⟨rfl, rfl, rfl, rfl, rfl⟩, ⟨a, by show remN pm - 1 ≤ 8; omega, fun i hi => ?_, d, e, f⟩, ?_, h8, rfl⟩
  · rcases remP_row (u := u) (pa := pa) b (show i < remN pm by have : i < remN pm - 1 := hi; omega) with z | ⟨i2, h3, z⟩
    · exact Wf_congr z a
    · exact Wf_congr z (c i2 h3)
  · show (if remN pm = 0 then (-2 : Int32) else nI (remN pm - 1)) = _
    rw [if_neg (by omega)]
theorem EqS_wf {N : Nat} {S T : AS} (h : EqS S T) : T.1 = S.1 := h.1.symm
