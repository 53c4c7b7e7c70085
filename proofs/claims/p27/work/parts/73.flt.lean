/-! floats: the mean is never a NaN; rows and contracts for it -/
theorem vn32_iff {r : UInt32} : vf_n32 r ↔ r.toNat % 2147483648 ≤ 2139095040 := by
  unfold vf_n32
  rw [UInt32.le_iff_toNat_le, UInt32.toNat_and]
  have e1 : (0x7fffffff : UInt32).toNat = 2 ^ 31 - 1 := by decide
  have e2 : (0x7f800000 : UInt32).toNat = 2139095040 := by decide
  rw [e1, e2, Nat.and_two_pow_sub_one_eq_mod]
theorem vn64_iff {r : UInt64} : vf_n64 r ↔ r.toNat % 9223372036854775808 ≤ 9218868437227405312 := by
  unfold vf_n64
  rw [UInt64.le_iff_toNat_le, UInt64.toNat_and]
  have e1 : (0x7fffffffffffffff : UInt64).toNat = 2 ^ 63 - 1 := by decide
  have e2 : (0x7ff0000000000000 : UInt64).toNat = 9218868437227405312 := by decide
  rw [e1, e2, Nat.and_two_pow_sub_one_eq_mod]
/-- a datum as rounding leaves it -/
def fl_set (f : FP.Core.Fmt) (D : FP.Core.Datum) : Prop := (∃ s, D = .inf s) ∨ ∃ s c q, D = .fin s c q ∧ c < 2 ^ f.p ∧ q ≤ f.qmax
theorem fl_settle (f : FP.Core.Fmt) (ht : f.tails < 2 ^ f.p) (s : Bool) (c : Nat) (q : Int) : fl_set f (FP.Core.settle f s c q) := by
  unfold FP.Core.settle FP.Core.bound
  split
  · split
    · exact Or.inr ⟨_, _, _, rfl, by assumption, by assumption⟩
    · exact Or.inl ⟨_, rfl⟩
  · split
    · exact Or.inr ⟨_, _, _, rfl, ht, by assumption⟩
    · exact Or.inl ⟨_, rfl⟩
theorem fl_ratio (f : FP.Core.Fmt) (ht : f.tails < 2 ^ f.p) (hq : f.qmin ≤ f.qmax) (s : Bool) (n d : Nat) (e : Int) : fl_set f (FP.Core.roundRatio f s n d e) := by
  unfold FP.Core.roundRatio
  split
  · exact Or.inr ⟨_, _, _, rfl, Nat.two_pow_pos _, hq⟩
  · exact fl_settle f ht _ _ _
theorem fl_round (f : FP.Core.Fmt) (ht : f.tails < 2 ^ f.p) (hq : f.qmin ≤ f.qmax) {D : FP.Core.Datum} (h : D ≠ .nan) : fl_set f (FP.Core.round f D) := by
  cases D with
  | nan => exact absurd rfl h
  | inf s => exact Or.inl ⟨s, rfl⟩
  | fin s c q => exact fl_ratio f ht hq s c 1 q
theorem fl_quot (f : FP.Core.Fmt) (ht : f.tails < 2 ^ f.p) (hq : f.qmin ≤ f.qmax) {D : FP.Core.Datum} {t : Bool} {d : Nat} {r : Int} (h : D ≠ .nan) (hd : d ≠ 0) : fl_set f (FP.Core.quotient f D (.fin t d r)) := by
  cases D with
  | nan => exact absurd rfl h
  | inf s => exact Or.inl ⟨_, rfl⟩
  | fin s c q =>
    show fl_set f (if d = 0 then _ else _)
    rw [if_neg hd]
    exact fl_ratio f ht hq _ _ _ _
theorem fl_b32 : FP.Core.b32.tails = 8388608 ∧ FP.Core.b32.exps = 256 ∧ FP.Core.b32.qmin = -149 ∧ FP.Core.b32.qmax = 104 ∧ 2 ^ FP.Core.b32.p = 16777216 := by decide
theorem fl_b64 : FP.Core.b64.tails = 4503599627370496 ∧ FP.Core.b64.exps = 2048 ∧ FP.Core.b64.qmin = -1074 ∧ FP.Core.b64.qmax = 971 ∧ 2 ^ FP.Core.b64.p = 9007199254740992 := by decide
theorem fl_enc32 {D : FP.Core.Datum} (h : fl_set FP.Core.b32 D) : FP.Core.encode FP.Core.b32 D < 4294967296 ∧ FP.Core.encode FP.Core.b32 D % 2147483648 ≤ 2139095040 := by
  obtain ⟨e1, e2, e3, e4, e5⟩ := fl_b32
  rcases h with ⟨s, rfl⟩ | ⟨s, c, q, rfl, hc, hq⟩
  · unfold FP.Core.encode FP.Core.assemble
    rw [e1, e2]
    cases s <;> decide
  · unfold FP.Core.encode FP.Core.assemble
    rw [e5] at hc
    rw [e4] at hq
    dsimp only
    rw [e1, e2, e3]
    have hs : s.toNat ≤ 1 := Bool.toNat_le s
    split
    · omega
    · omega
theorem fl_enc64 {D : FP.Core.Datum} (h : fl_set FP.Core.b64 D) : FP.Core.encode FP.Core.b64 D < 18446744073709551616 ∧ FP.Core.encode FP.Core.b64 D % 9223372036854775808 ≤ 9218868437227405312 := by
  obtain ⟨e1, e2, e3, e4, e5⟩ := fl_b64
  rcases h with ⟨s, rfl⟩ | ⟨s, c, q, rfl, hc, hq⟩
  · unfold FP.Core.encode FP.Core.assemble
    rw [e1, e2]
    cases s <;> decide
  · unfold FP.Core.encode FP.Core.assemble
    rw [e5] at hc
    rw [e4] at hq
    dsimp only
    rw [e1, e2, e3]
    have hs : s.toNat ≤ 1 := Bool.toNat_le s
    split
    · omega
    · omega
theorem fl_dec32 {n : Nat} (h : n % 2147483648 ≤ 2139095040) : FP.Core.decode FP.Core.b32 n ≠ .nan := by
  obtain ⟨e1, e2, e3, e4, e5⟩ := fl_b32
  unfold FP.Core.decode FP.Core.fieldE FP.Core.fieldT
  rw [e1, e2]
  split
  · split
    · exact fun z => by cases z
    · omega
  · split <;> exact fun z => by cases z
theorem fl_dec64 {n : Nat} (h : n % 9223372036854775808 ≤ 9218868437227405312) : FP.Core.decode FP.Core.b64 n ≠ .nan := by
  obtain ⟨e1, e2, e3, e4, e5⟩ := fl_b64
  unfold FP.Core.decode FP.Core.fieldE FP.Core.fieldT
  rw [e1, e2]
  split
  · split
    · exact fun z => by cases z
    · omega
  · split <;> exact fun z => by cases z
theorem fl_of32 {n : Nat} (h : n < 4294967296) : (UInt32.ofNat n).toNat = n := by
  rw [UInt32.toNat_ofNat']
  exact Nat.mod_eq_of_lt h
theorem fl_of64 {n : Nat} (h : n < 18446744073709551616) : (UInt64.ofNat n).toNat = n := by
  rw [UInt64.toNat_ofNat']
  exact Nat.mod_eq_of_lt h
theorem fl_t32 : FP.Core.b32.tails < 2 ^ FP.Core.b32.p ∧ FP.Core.b32.qmin ≤ FP.Core.b32.qmax := by decide
theorem fl_t64 : FP.Core.b64.tails < 2 ^ FP.Core.b64.p ∧ FP.Core.b64.qmin ≤ FP.Core.b64.qmax := by decide
/-- an int as a float is no NaN -/
theorem fl_i2f (v : Int32) : FP.Core.decode FP.Core.b32 (FP.i2f v).toNat ≠ .nan := by
  have h := fl_enc32 (fl_round FP.Core.b32 fl_t32.1 fl_t32.2 (D := FP.Core.ofInt v.toInt) (fun z => by unfold FP.Core.ofInt at z; cases z))
  show FP.Core.decode FP.Core.b32 (UInt32.ofNat (FP.Core.encode FP.Core.b32 (FP.Core.round FP.Core.b32 (FP.Core.ofInt v.toInt)))).toNat ≠ .nan
  rw [fl_of32 h.1]
  exact fl_dec32 h.2
/-- a positive one that is not too great stays a positive number -/
theorem fl_pos {b : Nat} (h1 : 1 ≤ b) (h2 : b < 524288) : ∃ t d r, FP.Core.decode FP.Core.b32 (FP.i2f (nI b)).toNat = .fin t d r ∧ d ≠ 0 := by
  obtain ⟨e1, e2, e3, e4, e5⟩ := fl_b32
  have hto : (nI b).toInt = b := nI_toInt (by omega)
  have hlog : b.log2 ≤ 18 := by
    have := (Nat.log2_lt (show b ≠ 0 by omega) (k := 19)).mpr (by omega)
    omega
  -- the rounded datum
  have hround : ∃ c q, FP.Core.round FP.Core.b32 (FP.Core.ofInt (b : Int)) = .fin false c q ∧ 1 ≤ c ∧ c < 16777216 ∧ -149 ≤ q ∧ q ≤ 0 := by
    have ho : FP.Core.ofInt (b : Int) = .fin false b 0 := by
      unfold FP.Core.ofInt
      rw [decide_eq_false (by omega)]
      rfl
    rw [ho]
    show ∃ c q, FP.Core.roundRatio FP.Core.b32 false b 1 0 = .fin false c q ∧ _
    unfold FP.Core.roundRatio
    rw [if_neg (by omega)]
    have hq : -149 ≤ FP.Core.quantum FP.Core.b32 b 1 0 ∧ FP.Core.quantum FP.Core.b32 b 1 0 ≤ -1 := by
      unfold FP.Core.quantum
      rw [e3]
      have hl : FP.Core.leading b 1 ≤ 18 := by
        unfold FP.Core.leading
        have e0 : Nat.log2 1 = 0 := by decide
        rw [e0]
        dsimp only
        split <;> omega
      have hp : (FP.Core.b32.p : Int) = 24 := by decide
      rw [hp]
      omega
    generalize FP.Core.quantum FP.Core.b32 b 1 0 = q at hq
    unfold FP.Core.roundAt
    have hc : 1 ≤ FP.Core.nearest (FP.Core.unitsNum b 0 q) (FP.Core.unitsDen 1 0 q) := by
      unfold FP.Core.unitsNum FP.Core.unitsDen
      rw [show (q - 0).toNat = 0 by omega]
      have hb : 1 ≤ b * 2 ^ (0 - q).toNat := Nat.mul_pos h1 (Nat.two_pow_pos _)
      generalize b * 2 ^ (0 - q).toNat = m at hb
      unfold FP.Core.nearest
      rw [show 1 * 2 ^ 0 = 1 by decide, Nat.mod_one, Nat.div_one]
      rw [if_pos (by decide)]
      exact hb
    generalize FP.Core.nearest (FP.Core.unitsNum b 0 q) (FP.Core.unitsDen 1 0 q) = c at hc
    unfold FP.Core.settle FP.Core.bound
    rw [e1, e4, e5]
    by_cases h : c < 16777216
    · rw [if_pos h, if_pos (by omega)]
      exact ⟨c, q, rfl, hc, h, hq.1, by omega⟩
    · rw [if_neg h, if_pos (by omega)]
      exact ⟨8388608, q + 1, rfl, by omega, by omega, by omega, by omega⟩
  obtain ⟨c, q, hr, hc1, hc2, hq1, hq2⟩ := hround
  have henc : FP.Core.fromInt FP.Core.b32 (nI b).toInt = if c < 8388608 then c else ((q + 149).toNat + 1) * 8388608 + (c - 8388608) := by
    rw [hto]
    unfold FP.Core.fromInt
    rw [hr]
    unfold FP.Core.encode FP.Core.assemble
    dsimp only
    rw [e1, e2, e3]
    split
    · simp
    · rw [show q - -149 = q + 149 by omega]
      simp
  show ∃ t d r, FP.Core.decode FP.Core.b32 (UInt32.ofNat (FP.Core.fromInt FP.Core.b32 (nI b).toInt)).toNat = .fin t d r ∧ d ≠ 0
  rw [henc]
  have hn : 1 ≤ (if c < 8388608 then c else ((q + 149).toNat + 1) * 8388608 + (c - 8388608)) ∧ (if c < 8388608 then c else ((q + 149).toNat + 1) * 8388608 + (c - 8388608)) < 2139095040 := by
    split <;> omega
  generalize (if c < 8388608 then c else ((q + 149).toNat + 1) * 8388608 + (c - 8388608)) = n at hn
  rw [fl_of32 (by omega)]
  unfold FP.Core.decode FP.Core.fieldE FP.Core.fieldT
  rw [e1, e2]
  rw [if_neg (by omega)]
  split
  · exact ⟨_, _, _, rfl, by omega⟩
  · exact ⟨_, _, _, rfl, by omega⟩
/-- the mean minutes of a move -/
def menV (u : Nat → Nat) : UInt32 := if u 8 = 0 then FP.fconst0 else FP.fdiv (FP.i2f (nI (u 9))) (FP.i2f (nI (u 8)))
theorem men_div {a b : Nat} (h1 : 1 ≤ b) (h2 : b < 524288) : vf_n32 (FP.fdiv (FP.i2f (nI a)) (FP.i2f (nI b))) := by
  obtain ⟨t, d, r, e, hd⟩ := fl_pos h1 h2
  have h := fl_enc32 (fl_quot FP.Core.b32 fl_t32.1 fl_t32.2 (t := t) (r := r) (fl_i2f (nI a)) hd)
  rw [vn32_iff]
  show (UInt32.ofNat (FP.Core.encode FP.Core.b32 (FP.Core.quotient FP.Core.b32 (FP.Core.decode FP.Core.b32 (FP.i2f (nI a)).toNat) (FP.Core.decode FP.Core.b32 (FP.i2f (nI b)).toNat)))).toNat % 2147483648 ≤ 2139095040
  rw [e, fl_of32 h.1]
  exact h.2
theorem men_n32 {u : Nat → Nat} (h : u 8 < 524288) : vf_n32 (menV u) := by
  unfold menV
  split
  · rw [vn32_iff]; decide
  · exact men_div (by omega) h
theorem f2d_n64 {r : UInt32} (h : vf_n32 r) : vf_n64 (FP.f2d r) := by
  rw [vn32_iff] at h
  have h1 := fl_dec32 h
  have h2 := fl_enc64 (fl_round FP.Core.b64 fl_t64.1 fl_t64.2 h1)
  unfold FP.f2d
  rw [if_neg]
  · rw [vn64_iff]
    show (UInt64.ofNat (FP.Core.encode FP.Core.b64 (FP.Core.round FP.Core.b64 (FP.Core.decode FP.Core.b32 r.toNat)))).toNat % _ ≤ _
    rw [fl_of64 h2.1]
    exact h2.2
  · show ¬ decide (FP.Core.decode FP.Core.b32 r.toNat = .nan) = true
    rw [decide_eq_true_iff]
    exact h1
theorem dcmp_eq {w : UInt64} (h : vf_n64 w) : FP.dcmp w w = some .eq := by
  rw [vn64_iff] at h
  have h1 := fl_dec64 h
  show FP.Core.order (FP.Core.decode FP.Core.b64 w.toNat) (FP.Core.decode FP.Core.b64 w.toNat) = some .eq
  generalize FP.Core.decode FP.Core.b64 w.toNat = D at h1
  cases D with
  | nan => exact absurd rfl h1
  | inf s =>
    show some (compare (FP.Core.signed s 1) (FP.Core.signed s 1)) = some .eq
    cases s <;> rfl
  | fin s c q =>
    show some (compare (FP.Core.signed s (FP.Core.inUnits c q (min q q))) (FP.Core.signed s (FP.Core.inUnits c q (min q q)))) = some .eq
    generalize FP.Core.signed s (FP.Core.inUnits c q (min q q)) = x
    first
      | exact congrArg some (Std.ReflCmp.compare_self (cmp := (compare : Int → Int → Ordering)))
      | (show some (compareOfLessAndEq x x) = some .eq; unfold compareOfLessAndEq; rw [if_neg (Int.lt_irrefl x), if_pos rfl])
section KF
variable {g : GG} {p : Program} {l : Launch} {e : Env} {R : Room} {s : State} {m : MethodId} {args : Array Value} {below : List Frame} {meth : Method} {c : Code} {n : Nat} {own : String} {A : Nat → Prop} {H0 : Heap} {cells slots : Nat} {Q : State → Prop} {cc : ByteArray} {ws : va_W} {lv : List (Nat × Value)} {pc : Nat} {st : List Value}
theorem zk_fconst0 (hc : KC g p s m args c cc n own A H0 meth) (d : decode cc pc = .ok (.fconst 0, 1)) (kk : KW g p l e R s m args below meth c n A H0 cells slots Q ws lv (pc + 1) (.float FP.fconst0 :: st)) : KW g p l e R s m args below meth c n A H0 cells slots Q ws lv pc st := fun H locs ls hP hD hS hl => lv_fconst0 hc.1 hc.2.1 d (kk H locs ls hP hD hS hl)
theorem zk_i2f (hc : KC g p s m args c cc n own A H0 meth) {x : Int32} (d : decode cc pc = .ok (.i2f, 1)) (kk : KW g p l e R s m args below meth c n A H0 cells slots Q ws lv (pc + 1) (.float (FP.i2f x) :: st)) : KW g p l e R s m args below meth c n A H0 cells slots Q ws lv pc (.int x :: st) := fun H locs ls hP hD hS hl => lv_i2f hc.1 hc.2.1 d (kk H locs ls hP hD hS hl)
theorem zk_fdiv (hc : KC g p s m args c cc n own A H0 meth) {x y : UInt32} (hn : vf_n32 (FP.fdiv x y)) (d : decode cc pc = .ok (.fdiv, 1)) (kk : KW g p l e R s m args below meth c n A H0 cells slots Q ws lv (pc + 1) (.float (FP.fdiv x y) :: st)) : KW g p l e R s m args below meth c n A H0 cells slots Q ws lv pc (.float y :: .float x :: st) := fun H locs ls hP hD hS hl => lv_fdiv hc.1 hc.2.1 d hn (kk H locs ls hP hD hS hl)
theorem zk_f2d (hc : KC g p s m args c cc n own A H0 meth) {x : UInt32} (hn : vf_n64 (FP.f2d x)) (d : decode cc pc = .ok (.f2d, 1)) (kk : KW g p l e R s m args below meth c n A H0 cells slots Q ws lv (pc + 1) (.double (FP.f2d x) :: st)) : KW g p l e R s m args below meth c n A H0 cells slots Q ws lv pc (.float x :: st) := fun H locs ls hP hD hS hl => lv_f2d hc.1 hc.2.1 d hn (kk H locs ls hP hD hS hl)
theorem zk_dcmp (hc : KC g p s m args c cc n own A H0 meth) {x y : UInt64} {op : CmpOp} (d : decode cc pc = .ok (.dcmp op, 1)) (kk : KW g p l e R s m args below meth c n A H0 cells slots Q ws lv (pc + 1) (.int (Op.cmpValue (FP.dcmp x y) op) :: st)) : KW g p l e R s m args below meth c n A H0 cells slots Q ws lv pc (.double y :: .double x :: st) := fun H locs ls hP hD hS hl => lv_dcmp hc.1 hc.2.1 d (kk H locs ls hP hD hS hl)
theorem zk_dload (hc : KC g p s m args c cc n own A H0 meth) {i : Nat} {x : UInt64} (d : decode cc pc = .ok (.dload i, 2)) (j : Nat) (h : lv[j]? = some (i, .double x)) (kk : KW g p l e R s m args below meth c n A H0 cells slots Q ws lv (pc + 2) (.double x :: st)) : KW g p l e R s m args below meth c n A H0 cells slots Q ws lv pc st := fun H locs ls hP hD hS hl => lv_dload hc.1 hc.2.1 d (lv_at hl j h) (kk H locs ls hP hD hS hl)
theorem zk_dstore (hc : KC g p s m args c cc n own A H0 meth) {i : Nat} {x : UInt64} {lv2 : List (Nat × Value)} (d : decode cc pc = .ok (.dstore i, 2)) (hn : i + 1 < n) (h : (i, Value.double x) :: lv.filter (fun q => !(q.1 == i) && (!(q.1 == i + 1) && !(q.1 + 1 == i && q.2.category == 2))) = lv2) (kk : KW g p l e R s m args below meth c n A H0 cells slots Q ws lv2 (pc + 2) st) : KW g p l e R s m args below meth c n A H0 cells slots Q ws lv pc (.double x :: st) := fun H locs ls hP hD hS hl => lv_dstore hc.1 hc.2.1 d hl hn h (fun ls2 hl2 => kk H locs ls2 hP hD hS hl2)
end KF
def CtF (g : GG) (l : Launch) (y : MethodName) (bytes : ByteArray) (maxL : Nat) (rm : Room) (Wd : va_W) (As : List Value) (post : UInt32 → va_W → Prop) : Prop :=
  ∀ sz : Nat, Met l y (.code y bytes maxL (some .float) :: wsL_law) rm (va_Pc As (PreW g Wd sz)) (va_Qf post (PostW g Wd sz) (va_A Wd sz)) rm.cells rm.slots (va_A Wd sz)
theorem CtF.go {g : GG} {l : Launch} {y : MethodName} {bytes : ByteArray} {maxL : Nat} {rm : Room} {Wd : va_W} {As : List Value} {post : UInt32 → va_W → Prop} (own : String) (ho : y.cls = own) (hy : plainName y.cls = true) (hn : (lg_sl As).length ≤ maxL) (body : ∀ (p : Program) (e : Env) (s : State) (m : MethodId) (args : Array Value) (below : List Frame) (meth : Method) (c : Code) (A : Nat → Prop) (H0 : Heap) (Q : State → Prop), KC g p s m args c bytes maxL own A H0 meth → meth.name = y.name → (∀ (cells slots : Nat) (ws : va_W) (lv : List (Nat × Value)) (pc : Nat) (v : UInt32), cells ≤ rm.cells → slots ≤ rm.slots → decode bytes pc = .ok (.freturn, 1) → post v ws → KW g p l e rm s m args below meth c maxL A H0 cells slots Q ws lv pc [.float v]) → KW g p l e rm s m args below meth c maxL A H0 0 0 Q Wd (lv_args 0 As) 0 []) : CtF g l y bytes maxL rm Wd As post := by
  subst ho
  intro sz
  refine Met.ofW (cc := bytes) (maxL := maxL) (ret := some .float) hy rfl ?_
  intro p e s m args below meth c s₁ B hml hv
  obtain ⟨rfl, hsz, hP, hK, hD0⟩ := hv
  subst hsz
  have hts := atoms_spec (ws := Cond.code y bytes maxL (some .float) :: wsL_law) B.pre
  have hl := lv_entry As hn
  rw [lg_entry_eq]
  have hc : KC g p s m As.toArray c bytes maxL y.cls (va_A Wd s.heap.size) s.heap meth := ⟨B.exec, B.bytes, hml, findClass_of_methodNamed B.named, fun w hw => hts w (List.mem_cons_of_mem _ hw), hK, fun q h => Or.inr h, B.notSynchronized⟩
  exact body p e s m _ below meth c _ _ _ hc (name_of_methodNamed B.named B.method).1 (fun cells slots ws lv pc v h1 h2 d hp H locs ls hP2 hD2 hS2 _ => W.widen h1 h2 (W.fret hc.1 hc.2.1 B.returns (fun t ht hW => ⟨⟨v, ws, rfl, hp, by rw [ht]; exact hP2, hD2⟩, hS2.F ht⟩) hS2.2.2 d hc.2.2.2.2.2.2.2)) s.heap [] _ hP hD0.self va_S.rf hl
theorem zk_callVf {g : GG} {p : Program} {l : Launch} {e : Env} {R : Room} {s : State} {m : MethodId} {args : Array Value} {below : List Frame} {meth : Method} {c : Code} {n : Nat} {own : String} {A : Nat → Prop} {H0 : Heap} {cells slots : Nat} {Q : State → Prop} {cc : ByteArray} {ws : va_W} {lv : List (Nat × Value)} {pc : Nat} {st : List Value} (hc : KC g p s m args c cc n own A H0 meth) {y : MethodName} {bytes : ByteArray} {maxL : Nat} {rm : Room} {Wd : va_W} {As rest : List Value} {b : Nat} {post : UInt32 → va_W → Prop} {idx : Nat} (hM : CtF g l y bytes maxL rm Wd (Value.ref b :: As) post) {C : String} (hG : GoodIn wsL_law (wsV own idx C y (.code y bytes maxL (some .float) :: wsL_law))) (hd : y.cls = C ∧ y.cls ≠ "java/lang/invoke/MethodHandle" ∧ y.cls ≠ "java/lang/invoke/VarHandle" ∧ (parseMethodDescriptor y.desc).map (fun d => d.parameters.length) = some As.length) (hR : rm.frames + 1 ≤ R.frames ∧ 8 + (maxL + 11) + rm.locals ≤ R.locals) (hf : cells + rm.cells ≤ R.cells ∧ slots + rm.slots ≤ R.slots) (pre suf : va_W) (hw : ws = pre ++ (Wd ++ suf)) (q0 : Nat) {ci : Nat} {fs : List Value} {T : u_T} {N : Nat} (he : ws[q0]? = some (b, .inr (ci, fs))) (hcl : vwCl[ci]? = some (C, T, N)) (hstk : st = As.reverse ++ .ref b :: rest) (hroom : (rest.map fun v => v.category).sum ≤ 8) (d : decode cc pc = .ok (.invokevirtual idx, 3)) (kk : ∀ (r : UInt32) (W1 : va_W), post r W1 → KW g p l e R s m args below meth c n A H0 (cells + rm.cells) (slots + rm.slots) Q (pre ++ (W1 ++ suf)) lv (pc + 3) (.float r :: rest)) : KW g p l e R s m args below meth c n A H0 cells slots Q ws lv pc st := by
  subst hw
  subst hstk
  intro H locs ls hP hD hS hl
  refine va_callf (va_runV (As := As) (rest := rest) ⟨hc.1, hc.2.1, hc.2.2.1, hc.2.2.2.1, hc.2.2.2.2.1⟩ (hM H.size) (cwV As.length hc.2.2.2.2.1 hG rfl rfl rfl hd hR) ⟨blindW, va_recv hc.2.2.2.2.2.1.1 hP hcl he, fun U hU hW => ⟨rfl, by rw [hU], by rw [hU]; exact zk_subP hP, VK.warm hc.2.2.2.2.2.1 hW, zk_subD hD⟩⟩ rfl rfl hl.1 rfl (lv_room hroom) d hf) hS (fun q _ h => zk_freeA hD hS hc.2.2.2.2.2.2.1 q h) (zk_freeA hD hS hc.2.2.2.2.2.2.1) (fun r u t H1 locs1 ht hvm hw1 hB hz1 hk1 hS1 => ?_)
  obtain ⟨hP1, hD1⟩ := hB
  rw [ht] at hP1
  obtain ⟨hP2, hD2⟩ := zk_join hP hD hk1 (zk_freeA hD hS hc.2.2.2.2.2.2.1) hP1 hD1
  exact kk r u hw1 H1 locs1 ls hP2 hD2 hS1 hl
