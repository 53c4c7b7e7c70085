/-! what the search's calls leave, and single moves by relation -/
theorem CtI.mono {g : GG} {l : Launch} {y : MethodName} {bytes : ByteArray} {maxL : Nat} {ret : Option FieldType} {rm : Room} {Wd : va_W} {As : List Value} {post post2 : Int32 → va_W → Prop} (h : CtI g l y bytes maxL ret rm Wd As post) (hq : ∀ r W1, post r W1 → post2 r W1) : CtI g l y bytes maxL ret rm Wd As post2 := by
  intro sz
  refine MetFree.mono (h sz) (fun _ _ z => z) (fun _ _ _ _ _ z => z) (fun aa st o t _ z => ?_)
  obtain ⟨⟨⟨r, W1, e1, e2, e3⟩, e4⟩, e5⟩ := z
  exact ⟨⟨⟨r, W1, e1, hq r W1 e2, e3⟩, e4⟩, e5⟩
theorem CtV.mono {g : GG} {l : Launch} {y : MethodName} {bytes : ByteArray} {maxL : Nat} {rm : Room} {Wd : va_W} {As : List Value} {post post2 : va_W → Prop} (h : CtV g l y bytes maxL rm Wd As post) (hq : ∀ W1, post W1 → post2 W1) : CtV g l y bytes maxL rm Wd As post2 := by
  intro sz
  refine MetFree.mono (h sz) (fun _ _ z => z) (fun _ _ _ _ _ z => z) (fun aa st o t _ z => ?_)
  obtain ⟨⟨⟨W1, e1, e2, e3⟩, e4⟩, e5⟩ := z
  exact ⟨⟨⟨W1, e1, hq W1 e2, e3⟩, e4⟩, e5⟩
theorem ct_X3_succeeds (g : GG) (l : Launch) (a ab ar ay a5 : Nat → Nat) (wf wt wn bf bt bn : Nat → Nat) (rmv rmi bmv bmi : Nat) (wa wi wo : Nat → Nat) (hb : Nat) (st0 ds0 le0 wg0 : Nat → Nat) (te0 : Nat → Int32) (K0 C0 ck0 mv0 mm0 tg0 gn0 wc0 tn0 g10 g20 g30 : Nat) (u st ds le wg : Nat → Nat) (te : Nat → Int32) (ck mv mm tg gn wc g1 g2 g3 : Nat) (hY : YA u st ds le wg) (hG : GU u) (hN : GN u) (hK1 : 1 ≤ u 4) (hM : fitK u) (d : Nat) (hd : d ≤ 3) : CtI g l yX3_succeeds cX3_succeeds 4 (some .boolean) (rmK 13 0 0) (SEW g.2.1 a (ab 0) (ay 0) (ar 0) wa wi wo hb ++ (YW g.2.1 ay st0 ds0 le0 wg0 te0 K0 C0 ck0 mv0 mm0 tg0 gn0 wc0 tn0 g10 g20 g30 ++ (RWW g.2.1 ar wf wt wn rmv rmi ++ (RWW g.2.1 ab bf bt bn bmv bmi ++ (YW g.2.1 a5 st ds le wg te (u 4) (u 5) ck mv mm tg gn wc (u 12) g1 g2 g3))))) [.ref (a 0), .ref (a5 0), .int (nI d)] (fun r W1 => ∃ wa2 wi2 wo2 hb2 st2 ds2 le2 wg2 te2 K2 C2 ck2 mv2 mm2 tg2 gn2 wc2 tn2 g12 g22 g32 wf2 wt2 wn2 rmv2 rmi2 bmv2 bmi2 bf2 bt2 bn2, r = nI hb2 ∧ W1 = SEW g.2.1 a (ab 0) (ay 0) (ar 0) wa2 wi2 wo2 hb2 ++ (YW g.2.1 ay st2 ds2 le2 wg2 te2 K2 C2 ck2 mv2 mm2 tg2 gn2 wc2 tn2 g12 g22 g32 ++ (RWW g.2.1 ar wf2 wt2 wn2 rmv2 rmi2 ++ (RWW g.2.1 ab bf2 bt2 bn2 bmv2 bmi2 ++ (YW g.2.1 a5 st ds le wg te (u 4) (u 5) ck mv mm tg gn wc (u 12) g1 g2 g3)))) ∧ BRc hb2 bmv2 bmi2 bf2 bt2 bn2 (vis d u [] 0 none)) := by
  rcases (show d = 0 ∨ d = 1 ∨ d = 2 ∨ d = 3 by omega) with rfl | rfl | rfl | rfl
  · exact ct_X3_succeeds_0 g l a ab ar ay a5 wf wt wn bf bt bn rmv rmi bmv bmi wa wi wo hb st0 ds0 le0 wg0 te0 K0 C0 ck0 mv0 mm0 tg0 gn0 wc0 tn0 g10 g20 g30 u st ds le wg te ck mv mm tg gn wc g1 g2 g3 hY hG hN hK1 hM
  · exact ct_X3_succeeds_1 g l a ab ar ay a5 wf wt wn bf bt bn rmv rmi bmv bmi wa wi wo hb st0 ds0 le0 wg0 te0 K0 C0 ck0 mv0 mm0 tg0 gn0 wc0 tn0 g10 g20 g30 u st ds le wg te ck mv mm tg gn wc g1 g2 g3 hY hG hN hK1 hM
  · exact ct_X3_succeeds_2 g l a ab ar ay a5 wf wt wn bf bt bn rmv rmi bmv bmi wa wi wo hb st0 ds0 le0 wg0 te0 K0 C0 ck0 mv0 mm0 tg0 gn0 wc0 tn0 g10 g20 g30 u st ds le wg te ck mv mm tg gn wc g1 g2 g3 hY hG hN hK1 hM
  · exact ct_X3_succeeds_3 g l a ab ar ay a5 wf wt wn bf bt bn rmv rmi bmv bmi wa wi wo hb st0 ds0 le0 wg0 te0 K0 C0 ck0 mv0 mm0 tg0 gn0 wc0 tn0 g10 g20 g30 u st ds le wg te ck mv mm tg gn wc g1 g2 g3 hY hG hN hK1 hM
theorem ct_X5_driveR (g : GG) (l : Launch) (a st ds le wg : Nat → Nat) (te : Nat → Int32) (K C ck mv mm tg gn wc tn g1 g2 g3 : Nat) (w : Nat → Nat) (hR : YRel (a, st, ds, le, wg, te, K, C, ck, mv, mm, tg, gn, wc, tn, g1, g2, g3) w) (hG : GU w) (hN : GN w) (f t n : Nat) (ho : okM w f t n) : CtI g l yX5_drive cX5_drive 5 (some .int) (rmK 3 0 0) (YW g.2.1 a st ds le wg te K C ck mv mm tg gn wc tn g1 g2 g3) [.ref (a 0), .int (nI f), .int (nI t), .int (nI n)] (fun r W1 => r = nI (mins w f t n) ∧ ∃ le2 wg2 te2 ck2 mv2 mm2, W1 = YW g.2.1 a st ds le2 wg2 te2 K C ck2 mv2 mm2 tg gn wc tn g1 g2 g3 ∧ YRel (a, st, ds, le2, wg2, te2, K, C, ck2, mv2, mm2, tg, gn, wc, tn, g1, g2, g3) (nxU w f t n)) := by
  obtain ⟨hY, r1, r2, r3, r4, r5, r6, r7, r8, r9, r10⟩ := id hR
  subst r1 r2 r3 r4 r5 r6 r7 r8 r9
  exact (ct_X5_drive g l a w st ds le wg te (w 6) (w 8) (w 9) (w 10) (w 11) (w 7) g1 g2 g3 hY hG hN f t n ho).mono (fun r W1 h => ⟨h.1, _, _, _, _, _, _, h.2, YRel_mov hG ho hR⟩)
theorem rowU_GN {u : Nat → Nat} {r : List MV} (hN : GN u) (h : GU u) (ho : okRow u r) : GN (rowU u r) := by
  induction r generalizing u with
  | nil => exact hN
  | cons y r ih => exact ih (nx_GN hN h ho.1) (nx_GU h ho.1) ho.2
theorem tot_at {u : Nat → Nat} {r : List MV} {q : Nat} {x : MV} (hx : r[q]? = some x) : tot u (r.take (q + 1)) = tot u (r.take q) + mins (rowU u (r.take q)) x.1 x.2.1 x.2.2 := by
  have e : r.take (q + 1) = r.take q ++ [x] := by
    first
      | rw [List.take_add_one, hx]; rfl
      | rw [List.take_succ, hx]; rfl
  rw [e]
  exact tot_app u _ x
theorem BRc_s {hb bmv bmi : Nat} {fr to nn : Nat → Nat} {b : BST} (h : BRc hb bmv bmi fr to nn b) (h1 : hb ≠ 0) : ∃ z, b = some z ∧ bmi = z.1 ∧ bmv = z.2.length ∧ z.2.length ≤ 3 ∧ z.1 ≤ 120 ∧ ∀ (i : Nat) (x : MV), z.2[i]? = some x → fr i = x.1 ∧ to i = x.2.1 ∧ nn i = x.2.2 := by
  cases b with
  | none => exact absurd h h1
  | some z => exact ⟨z, rfl, h.2⟩
theorem che_c {z : Nat × List MV} {fr to nn : Nat → Nat} (hz : ∀ (i : Nat) (x : MV), z.2[i]? = some x → fr i = x.1 ∧ to i = x.2.1 ∧ nn i = x.2.2) (hl : z.2.length ≠ 0) : nI (fr 0) = cheN (some z) 2 ∧ nI (to 0) = cheN (some z) 3 ∧ nI (nn 0) = cheN (some z) 4 := by
  obtain ⟨m, r⟩ := z
  cases r with
  | nil => exact absurd rfl hl
  | cons x r =>
    obtain ⟨e1, e2, e3⟩ := hz 0 x rfl
    exact ⟨congrArg nI e1, congrArg nI e2, congrArg nI e3⟩
theorem SP_mk (g : GG) (as ab ay ar : Nat → Nat) (wa wi wo : Nat → Nat) (hb : Nat) (st0 ds0 le0 wg0 : Nat → Nat) (te0 : Nat → Int32) (K0 C0 ck0 mv0 mm0 tg0 gn0 wc0 tn0 g10 g20 g30 : Nat) (wf wt wn : Nat → Nat) (rmv rmi : Nat) (bf bt bn : Nat → Nat) (bmv bmi : Nat) : SP g (as 0) (SEW g.2.1 as (ab 0) (ay 0) (ar 0) wa wi wo hb ++ (YW g.2.1 ay st0 ds0 le0 wg0 te0 K0 C0 ck0 mv0 mm0 tg0 gn0 wc0 tn0 g10 g20 g30 ++ (RWW g.2.1 ar wf wt wn rmv rmi ++ RWW g.2.1 ab bf bt bn bmv bmi))) :=
  ⟨as, ab, ay, ar, wa, wi, wo, hb, st0, ds0, le0, wg0, te0, K0, C0, ck0, mv0, mm0, tg0, gn0, wc0, tn0, g10, g20, g30, wf, wt, wn, rmv, rmi, bf, bt, bn, bmv, bmi, rfl, rfl⟩
theorem row_bak {im u : Nat → Nat} {i j : Nat} (hj : j < 131) : rowP im i j = bakU u im i j := row_und hj
theorem IR_none {is : Nat → Option YT} {fi : Nat → Option Nat} {im : Nat → Nat} {fl i : Nat} (h : IR is fi im fl) (hi : i < 2) (hn : is i = none) : flG fl i = 0 := by
  rcases Classical.em (flG fl i = 0) with z | z
  · exact z
  · obtain ⟨-, y, e, -⟩ := (h.2.2 i hi).2 z
    rw [hn] at e
    cases e
theorem IR_some {is : Nat → Option YT} {fi : Nat → Option Nat} {im : Nat → Nat} {fl i : Nat} {y : YT} (h : IR is fi im fl) (hi : i < 2) (hn : is i = some y) : flG fl i ≠ 0 ∧ ∀ u, YRel y (bakU u im i) := by
  have h0 : flG fl i ≠ 0 := fun z => by
    have := (h.2.2 i hi).1 z
    rw [hn] at this
    cases this
  refine ⟨h0, fun u => ?_⟩
  obtain ⟨hG, y2, e, hR⟩ := (h.2.2 i hi).2 h0
  rw [hn] at e
  cases e
  exact YRel_congr (fun j hj => row_bak hj) hG hR
theorem ct_X5_wagonsInYardR (g : GG) (l : Launch) (a st ds le wg : Nat → Nat) (te : Nat → Int32) (K C ck mv mm tg gn wc tn g1 g2 g3 : Nat) (w : Nat → Nat) (hR : YRel (a, st, ds, le, wg, te, K, C, ck, mv, mm, tg, gn, wc, tn, g1, g2, g3) w) (hG : GU w) (hN : GN w) : CtI g l yX5_wagonsInYard cX5_wagonsInYard 3 (some .int) (rmK 1 0 0) (YW g.2.1 a st ds le wg te K C ck mv mm tg gn wc tn g1 g2 g3) [.ref (a 0)] (fun r W1 => r = nI (wgs w (w 4)) ∧ W1 = YW g.2.1 a st ds le wg te K C ck mv mm tg gn wc tn g1 g2 g3) := by
  obtain ⟨hY, r1, r2, r3, r4, r5, r6, r7, r8, r9, r10⟩ := id hR
  subst r1 r2 r3 r4 r5 r6 r7 r8 r9
  exact ct_X5_wagonsInYard g l a w st ds le wg te (w 6) (w 8) (w 9) (w 10) (w 11) (w 7) g1 g2 g3 hY hG hN
