/-! p27: rows that the law's own methods want; the turn's call out of two numbers -/
section KD
variable {g : GG} {p : Program} {l : Launch} {e : Env} {R : Room} {s : State} {m : MethodId} {args : Array Value} {below : List Frame} {meth : Method} {c : Code} {n : Nat} {own : String} {A : Nat → Prop} {H0 : Heap} {cells slots : Nat} {Q : State → Prop} {ws : va_W} {lv : List (Nat × Value)} {pc : Nat} {st : List Value} {cc : ByteArray}
theorem zk_ldc (hc : KC g p s m args c cc n own A H0 meth) {idx : Nat} {v : Int32} (hw : Cond.constant own idx v ∈ wsL_law) (d : decode cc pc = .ok (.ldc idx, 2)) (kk : KW g p l e R s m args below meth c n A H0 cells slots Q ws lv (pc + 2) (.int v :: st)) : KW g p l e R s m args below meth c n A H0 cells slots Q ws lv pc st := fun H locs ls hP hD hS hl => lv_ldc hc.1 hc.2.1 hc.2.2.2.1 (hc.2.2.2.2.1 _ hw) d (kk H locs ls hP hD hS hl)
theorem zk_fcmp (hc : KC g p s m args c cc n own A H0 meth) {x y : UInt32} {op : CmpOp} (d : decode cc pc = .ok (.fcmp op, 1)) (kk : KW g p l e R s m args below meth c n A H0 cells slots Q ws lv (pc + 1) (.int (Op.cmpValue (FP.fcmp x y) op) :: st)) : KW g p l e R s m args below meth c n A H0 cells slots Q ws lv pc (.float y :: .float x :: st) := fun H locs ls hP hD hS hl => lv_fcmp hc.1 hc.2.1 d (kk H locs ls hP hD hS hl)
theorem zk_sld (hc : KC g p s m args c cc n own A H0 meth) {sb L : Nat} {xs : Nat → Int32} (hX : va_X sb L xs s H0) (hb : sb < H0.size) (hbA : ¬ A sb) {i : Nat} (hi : i < L) (hL : L < 2147483648) (d : decode cc pc = .ok (.iaload, 1)) (kk : KW g p l e R s m args below meth c n A H0 cells slots Q ws lv (pc + 1) (.int (xs i) :: st)) : KW g p l e R s m args below meth c n A H0 cells slots Q ws lv pc (.int (nI i) :: .ref sb :: st) := fun H locs ls hP hD hS hl => va_sld hc.1 hc.2.1 hX hb hbA hS (vp_in_nI hi hL) d (by rw [nI_clamp (by omega)]; exact kk H locs ls hP hD hS hl)
theorem zk_slen (hc : KC g p s m args c cc n own A H0 meth) {sb L : Nat} {xs : Nat → Int32} (hX : va_X sb L xs s H0) (hb : sb < H0.size) (hbA : ¬ A sb) (d : decode cc pc = .ok (.arraylength, 1)) (kk : KW g p l e R s m args below meth c n A H0 cells slots Q ws lv (pc + 1) (.int (nI L) :: st)) : KW g p l e R s m args below meth c n A H0 cells slots Q ws lv pc (.ref sb :: st) := fun H locs ls hP hD hS hl => va_slen hc.1 hc.2.1 hX hb hbA hS d (kk H locs ls hP hD hS hl)
end KD
theorem fcmp_eq {w : UInt32} (h : vf_n32 w) : FP.fcmp w w = some .eq := by
  rw [vn32_iff] at h
  have h1 := fl_dec32 h
  show FP.Core.order (FP.Core.decode FP.Core.b32 w.toNat) (FP.Core.decode FP.Core.b32 w.toNat) = some .eq
  generalize FP.Core.decode FP.Core.b32 w.toNat = D at h1
  cases D with
  | nan => exact absurd rfl h1
  | inf s =>
    show some (compare (FP.Core.signed s 1) (FP.Core.signed s 1)) = some .eq
    cases s <;> rfl
  | fin s c q =>
    show some (compare (FP.Core.signed s (FP.Core.inUnits c q (min q q))) (FP.Core.signed s (FP.Core.inUnits c q (min q q)))) = some .eq
    generalize FP.Core.signed s (FP.Core.inUnits c q (min q q)) = x
    first
      | exact congrArg some (Std.ReflCmp.compare_self (cmp := (compare : Int → Int → Ordering)))
      | (show some (compareOfLessAndEq x x) = some .eq; unfold compareOfLessAndEq; rw [if_neg (Int.lt_irrefl x), if_pos rfl])
theorem cs_at {g : GG} {b : Nat} {S : AS} {W : va_W} (hS : CSt g b S W) : ∃ fs, W[0]? = some (b, .inr (6, fs)) := by
  obtain ⟨a5, st, ds, le, wg, te, K, C, ck, mv, mm, tg, gn, wc, tn, g1, g2, g3, ah, f, nx, ct, hs, ax, rd2, fn, xi, xs, RI, RS, rfl, -⟩ := hS
  exact ⟨_, rfl⟩
theorem at_app {α : Type} {W V : List α} {k : Nat} {x : α} (h : W[k]? = some x) : (W ++ V)[k]? = some x := by
  obtain ⟨hk, e⟩ := List.getElem?_eq_some_iff.mp h
  rw [List.getElem?_append_left hk]
  exact h
-- the number that low answers
def lowB (v : Int32) : Nat := (v.toBitVec &&& 2147483647#32).toNat
def lowN (v : Int32) (n : Nat) : Nat := lowB v % n
theorem lowB_lt (v : Int32) : lowB v < 2147483648 := by
  unfold lowB
  rw [BitVec.toNat_and]
  exact Nat.lt_of_le_of_lt Nat.and_le_right (by decide)
theorem and_max (v : Int32) : v &&& 2147483647 = nI (lowB v) := by
  apply Int32.toBitVec_inj.mp
  show v.toBitVec &&& 2147483647#32 = BitVec.ofNat 32 (v.toBitVec &&& 2147483647#32).toNat
  simp
theorem lowN_lt (v : Int32) {n : Nat} (h : 1 ≤ n) : lowN v n < n := Nat.mod_lt _ h
-- what is written
def arrP (v w : Int32) (k : Nat) : List Int32 :=
  (if lowN (w >>> (nI (2 * k) &&& 31)) 3 = 0 then [nI (49 + lowN (w >>> (nI k &&& 31)) 2)] else []) ++ ([nI (65 + lowN (v >>> (nI (2 + 2 * k) &&& 31)) 3)] ++
  ((if lowN (w >>> (nI (3 * k) &&& 31)) 4 = 0 then [if lowN (v >>> (nI (9 + k) &&& 31)) 2 = 0 then nI 102 else nI 120] else []) ++ [nI 32]))
def arrT (v w : Int32) : Nat → List Int32
  | 0 => []
  | k + 1 => arrT v w k ++ arrP v w k
def lisT (v : Int32) : Nat → List Int32
  | 0 => []
  | k + 1 => lisT v k ++ [nI (65 + lowN (v >>> (nI (3 + 2 * k) &&& 31)) 3)]
def arrO (T : Nat) (v w : Int32) : Op := (3, nI (lowN (v >>> (nI 14 &&& 31)) T), nI 0, nI 0, arrT v w (1 + lowN v 3))
def lisO (v : Int32) : Op := (2, nI 0, nI 0, nI 0, lisT v (lowN v 7))
/-- the call of a turn -/
def chO (T : Nat) (v w : Int32) : Op := match lowN v 22 with
  | 0 => if lowN w 6 = 0 then (0, nI (2 + lowN (w >>> (nI 3 &&& 31)) 3), nI (1 + lowN (w >>> (nI 5 &&& 31)) 8), nI 0, []) else (1, nI 0, nI (lowN w 4), nI 0, [])
  | 1 => if lowN w 2 = 0 then (1, nI 1, nI (10 + lowN (w >>> (nI 1 &&& 31)) 591), nI 0, []) else (1, nI 2, nI (1 + lowN (w >>> (nI 1 &&& 31)) 20), nI 0, [])
  | 2 => (1, nI 3, nI (lowN w 31), nI 0, [])
  | 3 => lisO w
  | 4 => lisO w
  | 5 => arrO T w v
  | 6 => arrO T w v
  | 7 => arrO T w v
  | 8 => arrO T w v
  | 9 => (4, nI (lowN (v >>> (nI 5 &&& 31)) T), nI 0, nI 0, [])
  | 10 => (4, nI (lowN (v >>> (nI 5 &&& 31)) T), nI 0, nI 0, [])
  | 11 => (5, nI (1 + lowN w 200), nI 0, nI 0, [])
  | 12 => (6, nI (lowN (v >>> (nI 5 &&& 31)) T), nI 0, nI 0, [])
  | 13 => (6, nI (lowN (v >>> (nI 5 &&& 31)) T), nI 0, nI 0, [])
  | 14 => (7, nI (lowN w 3), nI 0, nI 0, [])
  | 15 => (7, nI (lowN w 3), nI 0, nI 0, [])
  | 17 => if lowN w 2 = 0 then (8, nI (lowN (w >>> (nI 1 &&& 31)) 2), nI 0, nI 0, []) else (9, nI (lowN (w >>> (nI 1 &&& 31)) 2), nI 0, nI 0, [])
  | _ => (10, nI (lowN (v >>> (nI 5 &&& 31)) T), nI ((lowN (v >>> (nI 5 &&& 31)) T + 1 + lowN w (T - 1)) % T), nI (1 + lowN (w >>> (nI 3 &&& 31)) 3), [])
-- the script's cells, which no world of the class holds
def PreX (g : GG) (sb L : Nat) (xs : Nat → Int32) (sz : Nat) (U : State) : Prop := PreW g [] sz U ∧ sb < sz ∧ va_X sb L xs U U.heap
theorem blindX {g : GG} {As : List Value} {sb L : Nat} {xs : Nat → Int32} {sz : Nat} : FrameBlind (va_Pc As (PreX g sb L xs sz)) := fun a U f mk q => by
  obtain ⟨q0, ⟨q1, qP, qK, qD⟩, qs, qX⟩ := q
  exact ⟨q0, ⟨q1, qP, VK.same (u := U) (U := U.calling f mk a) qK rfl, qD⟩, qs, va_X.moved (u := U) (U := U.calling f mk a) (Vm.Alike.refl _) qX⟩
theorem zk_callX {g : GG} {p : Program} {l : Launch} {e : Env} {R : Room} {s : State} {m : MethodId} {args : Array Value} {below : List Frame} {meth : Method} {c : Code} {n : Nat} {own : String} {A : Nat → Prop} {H0 : Heap} {cells slots : Nat} {Q : State → Prop} {ws : va_W} {lv : List (Nat × Value)} {pc : Nat} {cc : ByteArray} (hc : KC g p s m args c cc n own A H0 meth) {sb L : Nat} {xs : Nat → Int32} (hX : va_X sb L xs s H0) (hb : sb < H0.size) (hbA : ¬ A sb) {y : MethodName} {bytes : ByteArray} {maxL : Nat} {ret : Option FieldType} {rm : Room} {v : Int32} {rest : List Value} {post : Int32 → va_W → Prop} {idx : Nat} (hM : ∀ sz : Nat, Met l y (.code y bytes maxL ret :: wsL_law) rm (va_Pc [.ref sb, .int v] (PreX g sb L xs sz)) (va_Qi post (PostW g [] sz) (va_A [] sz)) rm.cells rm.slots (va_A [] sz)) (hG : GoodIn wsL_law (va_wsS own idx y (.code y bytes maxL ret :: wsL_law))) (hd : y.cls ≠ "java/lang/invoke/MethodHandle" ∧ y.cls ≠ "java/lang/invoke/VarHandle" ∧ (parseMethodDescriptor y.desc).map (fun d => d.parameters.length) = some 2) (hR : rm.frames + 1 ≤ R.frames ∧ 8 + (maxL + 11) + rm.locals ≤ R.locals) (hf : cells + rm.cells ≤ R.cells ∧ slots + rm.slots ≤ R.slots) (hroom : (rest.map fun v => v.category).sum ≤ 8) (d : decode cc pc = .ok (.invokestatic idx, 3)) (kk : ∀ (r : Int32) (W1 : va_W), post r W1 → KW g p l e R s m args below meth c n A H0 (cells + rm.cells) (slots + rm.slots) Q (W1 ++ ws) lv (pc + 3) (.int r :: rest)) : KW g p l e R s m args below meth c n A H0 cells slots Q ws lv pc (.int v :: .ref sb :: rest) := by
  intro H locs ls hP hD hS hl
  have hP0 : va_P g.1 vwCl ([] ++ ([] ++ ws)) H := hP
  have hD0 : va_D A ([] ++ ([] ++ ws)) := hD
  refine va_calli (va_runS (As := [.ref sb, .int v]) (rest := rest) ⟨hc.1, hc.2.1, hc.2.2.1, hc.2.2.2.1, hc.2.2.2.2.1⟩ (hM H.size) (va_cwS 2 hc.2.2.2.2.1 hG rfl rfl rfl hd hR) ⟨blindX, fun U hU hW => ⟨rfl, ⟨by rw [hU], by rw [hU]; exact zk_subP hP0, VK.warm hc.2.2.2.2.2.1 hW, zk_subD hD0⟩, Nat.lt_of_lt_of_le hb hS.1, va_X.moved hW.alike (by rw [hU]; exact va_X.kept hX (hS.2.1 sb hb hbA))⟩⟩ rfl rfl hl.1 rfl (lv_room hroom) d hf) hS (fun q _ h => zk_freeA hD0 hS hc.2.2.2.2.2.2.1 q h) (zk_freeA hD0 hS hc.2.2.2.2.2.2.1) (fun r u t H1 locs1 ht hvm hw1 hB hz1 hk1 hS1 => ?_)
  obtain ⟨hP1, hD1⟩ := hB
  rw [ht] at hP1
  obtain ⟨hP2, hD2⟩ := zk_join hP0 hD0 hk1 (zk_freeA hD0 hS hc.2.2.2.2.2.2.1) hP1 hD1
  exact kk r u hw1 H1 locs1 ls hP2 hD2 hS1 hl
def cellV (xs : Nat → Int32) (L k : Nat) : Int32 := if k < L then xs k else 747796405 * nI (k + 1)
theorem ct_L_cell (g : GG) (l : Launch) (sb L : Nat) (xs : Nat → Int32) (hL : L < 2147483648) (k : Nat) (hk : k < 1000) : ∀ sz : Nat, Met l yL_cell (.code yL_cell cL_cell 2 (some .int) :: wsL_law) (rmK 1 0 0) (va_Pc [.ref sb, .int (nI k)] (PreX g sb L xs sz)) (va_Qi (fun r W1 => r = cellV xs L k ∧ W1 = []) (PostW g [] sz) (va_A [] sz)) 0 0 (va_A [] sz) := by
  intro sz
  refine Met.ofW (cc := cL_cell) (maxL := 2) (ret := some .int) (by decide +kernel) rfl ?_
  intro p e s m args below meth c s₁ B hml hv
  obtain ⟨rfl, ⟨hsz, hP, hK, hD0⟩, hb, hX⟩ := hv
  subst hsz
  have hts := atoms_spec (ws := Cond.code yL_cell cL_cell 2 (some .int) :: wsL_law) B.pre
  have hl := lv_entry [.ref sb, .int (nI k)] (n := 2) (Nat.le_of_ble_eq_true rfl)
  rw [lg_entry_eq]
  have hc : KC g p s m #[.ref sb, .int (nI k)] c cL_cell 2 RL (va_A [] s.heap.size) s.heap meth := ⟨B.exec, B.bytes, hml, findClass_of_methodNamed B.named, fun w hw => hts w (List.mem_cons_of_mem _ hw), hK, fun q h => Or.inr h, B.notSynchronized⟩
  have hA : ¬ va_A [] s.heap.size sb := fun h => by
    rcases h with ⟨i, e, h⟩ | h
    · simp at h
    · omega
  have kw : KW g p l e (rmK 1 0 0) s m #[.ref sb, .int (nI k)] below meth c 2 (va_A [] s.heap.size) s.heap 0 0 (MQ below (va_Qi (fun r W1 => r = cellV xs L k ∧ W1 = []) (PostW g [] s.heap.size) (va_A [] s.heap.size)) #[.ref sb, .int (nI k)] s (rmK 1 0 0).cells (rmK 1 0 0).slots (va_A [] s.heap.size)) [] [(0, .ref sb), (1, .int (nI k))] 0 [] := by
    refine zk_iload_n hc dL_cell_0 1 rfl ?_
    refine zk_aload_n hc dL_cell_1 0 rfl ?_
    refine zk_slen hc hX hb hA dL_cell_2 ?_
    refine zk_icmp_geN hc 12 dL_cell_3 (by decide) (by omega) (by omega) (fun h => ?_) (fun h => ?_)
    · refine zk_ldc hc mw_4_8 dL_cell_12 ?_
      refine zk_iload_n hc dL_cell_14 1 rfl ?_
      refine zk_iconst hc (nI 1) dL_cell_15 rfl ?_
      refine zk_iaddN hc dL_cell_16 ?_
      refine zk_imul hc dL_cell_17 ?_
      exact zk_iret hc B.returns ⟨Nat.le_refl _, Nat.le_refl _⟩ dL_cell_18 ⟨by unfold cellV; rw [if_neg (by omega)], rfl⟩
    · refine zk_aload_n hc dL_cell_6 0 rfl ?_
      refine zk_iload_n hc dL_cell_7 1 rfl ?_
      refine zk_sld hc hX hb hA (by omega) (by omega) dL_cell_8 ?_
      refine zk_goto hc 18 dL_cell_9 (by decide) ?_
      exact zk_iret hc B.returns ⟨Nat.le_refl _, Nat.le_refl _⟩ dL_cell_18 ⟨by unfold cellV; rw [if_pos (by omega)], rfl⟩
  exact kw s.heap [] _ hP hD0.self va_S.rf hl
theorem tol_eq {S T : AS} (h : EqS S T) {k : Nat} (hk : k ≤ 12) (h11 : k ≠ 11) : aTol T (nI k) = aTol S (nI k) := by
  have e : T.1 = S.1 := h.1.symm
  rw [tol_n _ (by omega), tol_n _ (by omega)]
  rcases (show k = 0 ∨ k = 1 ∨ k = 2 ∨ k = 3 ∨ k = 4 ∨ k = 5 ∨ k = 6 ∨ k = 7 ∨ k = 8 ∨ k = 9 ∨ k = 10 ∨ k = 12 by omega) with rfl | rfl | rfl | rfl | rfl | rfl | rfl | rfl | rfl | rfl | rfl | rfl
  all_goals simp only [tolN, e]
