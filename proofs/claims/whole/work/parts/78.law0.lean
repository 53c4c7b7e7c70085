/-! the law: its rows -/
def LK (g : GG) (p : Program) (s : State) (m : MethodId) (args : Array Value) (c : Code) (A : Nat → Prop) (H0 : Heap) (meth : Method) (sb L : Nat) (xs : Nat → Int32) : Prop := KC g p s m args c cL_law 8 RL A H0 meth ∧ va_X sb L xs s H0 ∧ sb < H0.size ∧ ¬ A sb ∧ L ≤ 2048
section LW
variable {g : GG} {p : Program} {l : Launch} {e : Env} {s : State} {m : MethodId} {args : Array Value} {below : List Frame} {meth : Method} {c : Code} {A : Nat → Prop} {H0 : Heap} {Q : State → Prop} {sb L : Nat} {xs : Nat → Int32} {cells slots : Nat} {ws : va_W} {lv : List (Nat × Value)} {pc : Nat} {st : List Value}
theorem lk_ld (hk : LK g p s m args c A H0 meth sb L xs) {i : Nat} (hi : i < L) (d : decode cL_law pc = .ok (.iaload, 1)) (kk : KW g p l e room_1 s m args below meth c 8 A H0 cells slots Q ws lv (pc + 1) (.int (xs i) :: st)) : KW g p l e room_1 s m args below meth c 8 A H0 cells slots Q ws lv pc (.int (nI i) :: .ref sb :: st) := fun H locs ls hP hD hS hl => va_sld hk.1.1 hk.1.2.1 hk.2.1 hk.2.2.1 hk.2.2.2.1 hS (vp_in_nI hi (by have := hk.2.2.2.2; omega)) d (by rw [nI_clamp (by have := hk.2.2.2.2; omega)]; exact kk H locs ls hP hD hS hl)
theorem lk_len (hk : LK g p s m args c A H0 meth sb L xs) (d : decode cL_law pc = .ok (.arraylength, 1)) (kk : KW g p l e room_1 s m args below meth c 8 A H0 cells slots Q ws lv (pc + 1) (.int (nI L) :: st)) : KW g p l e room_1 s m args below meth c 8 A H0 cells slots Q ws lv pc (.ref sb :: st) := fun H locs ls hP hD hS hl => va_slen hk.1.1 hk.1.2.1 hk.2.1 hk.2.2.1 hk.2.2.2.1 hS d (kk H locs ls hP hD hS hl)
theorem lk_at {b : Nat} {a : Nat → Nat} {S S0 : AS} {X : SC} {W : va_W} (hS : CSt g b S W) : ∃ fs, (MSW g.2.1 a S0 X ++ W)[13]? = some (b, .inr (6, fs)) := by
  obtain ⟨u, pa, pm, im, fl, tx, ln, fk, fp, rs⟩ := S0
  obtain ⟨rw, rb, rk, rt, he, tr, be, sp, rm, rd, bn, wk, wp, bm⟩ := X
  obtain ⟨a5, st, ds, le, wg, te, K, C, ck, mv, mm, tg, gn, wc, tn, g1, g2, g3, ah, f, nx, ct, hs, ax, rd2, fn, xi, xs, RI, RS, rfl, -⟩ := hS
  exact ⟨_, rfl⟩
theorem lk_am {a : Nat → Nat} {S0 : AS} {X : SC} {W : va_W} : ∃ fs, (MSW g.2.1 a S0 X ++ W)[0]? = some (a 0, .inr (7, fs)) := by
  obtain ⟨u, pa, pm, im, fl, tx, ln, fk, fp, rs⟩ := S0
  obtain ⟨rw, rb, rk, rt, he, tr, be, sp, rm, rd, bn, wk, wp, bm⟩ := X
  exact ⟨_, rfl⟩
end LW
theorem and31 (x : Int32) : ∃ k, k ≤ 31 ∧ x &&& nI 31 = nI k := by
  refine ⟨(x.toBitVec &&& 31#32).toNat, ?_, ?_⟩
  · rw [BitVec.toNat_and]
    exact Nat.and_le_right
  · apply Int32.toBitVec_inj.mp
    show x.toBitVec &&& 31#32 = BitVec.ofNat 32 (x.toBitVec &&& 31#32).toNat
    simp
theorem len_4 {L k : Nat} (hL : L ≤ 2048) (hk : k ≤ 2048) (h : ¬ nI L - nI 4 < nI k) : k + 4 ≤ L := by
  rcases Nat.lt_or_ge L 4 with z | z
  · exact absurd (Int32.lt_of_lt_of_le (pk_sneg (by omega) z) (Int32.not_lt.mp (nI_pos (by omega)))) h
  · rw [pk_sub z] at h
    rcases Nat.lt_or_ge (L - 4) k with q | q
    · exact absurd ((nI_ltI (by omega) (by omega)).mpr q) h
    · omega
