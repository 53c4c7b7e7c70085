theorem lk_loop {g : GG} {p : Program} {l : Launch} {e : Env} {s : State} {m : MethodId} {args : Array Value} {below : List Frame} {meth : Method} {c : Code} {A : Nat → Prop} {H0 : Heap} {Q : State → Prop} {sb L : Nat} {xs : Nat → Int32} (hk : LK g p s m args c A H0 meth sb L xs) {b : Nat} {a : Nat → Nat} (hend : ∀ (cells slots : Nat) (ws : va_W) (lv : List (Nat × Value)), cells ≤ 600000 → slots ≤ 7302250 → KW g p l e room_1 s m args below meth c 8 A H0 cells slots Q ws lv 802 []) : ∀ (n j : Nat) (S : AS) (X : SC) (W : va_W), L - 4 * j < n → 4 * j ≤ L → INV j S → CSt g b S W → KW g p l e room_1 s m args below meth c 8 A H0 (46 + 7 * j) (2407 + 72 * j) Q (MSW g.2.1 a S X ++ W) [(0, .ref sb), (1, .ref b), (2, .ref (a 0)), (3, .int (nI (4 * j)))] 18 [] := by
  have hc := hk.1
  have hL := hk.2.2.2.2
  intro n
  induction n with
  | zero => intro j S X W h; exact absurd h (Nat.not_lt_zero _)
  | succ n ih =>
    intro j S X W hn hj hI hS
    refine zk_iload_n hc dL_law_18 3 rfl ?_
    refine zk_aload_n hc dL_law_19 0 rfl ?_
    refine lk_len hk dL_law_20 ?_
    refine zk_iconst hc (nI 4) dL_law_21 rfl ?_
    refine zk_isub hc dL_law_22 ?_
    refine zk_icmp_gt hc 802 dL_law_23 (by decide) (fun _ => hend _ _ _ _ (by omega) (by omega)) (fun h4 => ?_)
    have hi := len_4 hL (by omega) h4
    have kk : ∀ S2 X2 W2, INV (j + 1) S2 → CSt g b S2 W2 → KW g p l e room_1 s m args below meth c 8 A H0 (46 + 7 * j + 7) (2407 + 72 * j + 72) Q (MSW g.2.1 a S2 X2 ++ W2) [(0, .ref sb), (1, .ref b), (2, .ref (a 0)), (3, .int (nI (4 * j)))] 796 [] := by
      intro S2 X2 W2 hI2 hS2
      refine zk_iinc hc (v := nI (4 * j + 4)) (lv2 := [(3, .int (nI (4 * j + 4))), (0, .ref sb), (1, .ref b), (2, .ref (a 0))]) dL_law_796 3 rfl (nq_inc rfl) (by decide) rfl ?_
      refine zk_goto hc 18 dL_law_799 (by decide) ?_
      refine zk_lv [1, 2, 3, 0] (lv2 := [(0, .ref sb), (1, .ref b), (2, .ref (a 0)), (3, .int (nI (4 * j + 4)))]) rfl ?_
      have := ih (j + 1) S2 X2 W2 (by omega) (by omega) hI2 hS2
      rw [show 46 + 7 * (j + 1) = 46 + 7 * j + 7 by omega, show 2407 + 72 * (j + 1) = 2407 + 72 * j + 72 by omega, show 4 * (j + 1) = 4 * j + 4 by omega] at this
      exact this
    refine zk_aload_n hc dL_law_26 0 rfl ?_
    refine zk_iload_n hc dL_law_27 3 rfl ?_
    refine lk_ld hk (by omega) dL_law_28 ?_
    refine zk_bipush hc (nI 31) dL_law_29 rfl ?_
    refine zk_iand hc dL_law_31 ?_
    obtain ⟨k, hk31, he⟩ := and31 (xs (4 * j))
    refine zk_top he ?_
    rcases (show k = 0 ∨ k = 1 ∨ k = 2 ∨ k = 3 ∨ k = 4 ∨ k = 5 ∨ k = 6 ∨ k = 7 ∨ k = 8 ∨ k = 9 ∨ k = 10 ∨ k = 11 ∨ k = 12 ∨ k = 13 ∨ k = 14 ∨ k = 15 ∨ k = 16 ∨ k = 17 ∨ k = 18 ∨ k = 19 ∨ k = 20 ∨ k = 21 ∨ k = 22 ∨ k = 23 ∨ 24 ≤ k by omega) with rfl | rfl | rfl | rfl | rfl | rfl | rfl | rfl | rfl | rfl | rfl | rfl | rfl | rfl | rfl | rfl | rfl | rfl | rfl | rfl | rfl | rfl | rfl | rfl | h24
    · refine zk_tableIn hc 144 dL_law_32 (by decide) (by decide) rfl (by decide) ?_
      exact lk_c0 hk (by omega) (by omega) (by omega) hI hS hi kk
    · refine zk_tableIn hc 177 dL_law_32 (by decide) (by decide) rfl (by decide) ?_
      exact lk_c1 hk (by omega) (by omega) (by omega) hI hS hi kk
    · refine zk_tableIn hc 210 dL_law_32 (by decide) (by decide) rfl (by decide) ?_
      exact lk_c2 hk (by omega) (by omega) (by omega) hI hS hi kk
    · refine zk_tableIn hc 233 dL_law_32 (by decide) (by decide) rfl (by decide) ?_
      exact lk_c3 hk (by omega) (by omega) (by omega) hI hS hi kk
    · refine zk_tableIn hc 246 dL_law_32 (by decide) (by decide) rfl (by decide) ?_
      exact lk_c4 hk (by omega) (by omega) (by omega) hI hS hi kk
    · refine zk_tableIn hc 289 dL_law_32 (by decide) (by decide) rfl (by decide) ?_
      exact lk_c5 hk (by omega) (by omega) (by omega) hI hS hi kk
    · refine zk_tableIn hc 312 dL_law_32 (by decide) (by decide) rfl (by decide) ?_
      exact lk_c6 hk (by omega) (by omega) (by omega) hI hS hi kk
    · refine zk_tableIn hc 335 dL_law_32 (by decide) (by decide) rfl (by decide) ?_
      exact lk_c7 hk (by omega) (by omega) (by omega) hI hS hi kk
    · refine zk_tableIn hc 358 dL_law_32 (by decide) (by decide) rfl (by decide) ?_
      exact lk_c8 hk (by omega) (by omega) (by omega) hI hS hi kk
    · refine zk_tableIn hc 381 dL_law_32 (by decide) (by decide) rfl (by decide) ?_
      exact lk_c9 hk (by omega) (by omega) (by omega) hI hS hi kk
    · refine zk_tableIn hc 394 dL_law_32 (by decide) (by decide) rfl (by decide) ?_
      exact lk_c10 hk (by omega) (by omega) (by omega) hI hS hi kk
    · refine zk_tableIn hc 417 dL_law_32 (by decide) (by decide) rfl (by decide) ?_
      exact lk_c11 hk (by omega) (by omega) (by omega) hI hS hi kk
    · refine zk_tableIn hc 430 dL_law_32 (by decide) (by decide) rfl (by decide) ?_
      exact lk_c12 hk (by omega) (by omega) (by omega) hI hS hi kk
    · refine zk_tableIn hc 453 dL_law_32 (by decide) (by decide) rfl (by decide) ?_
      exact lk_c13 hk (by omega) (by omega) (by omega) hI hS hi kk
    · refine zk_tableIn hc 476 dL_law_32 (by decide) (by decide) rfl (by decide) ?_
      exact lk_c14 hk (by omega) (by omega) (by omega) hI hS hi kk
    · refine zk_tableIn hc 499 dL_law_32 (by decide) (by decide) rfl (by decide) ?_
      exact lk_c15 hk (by omega) (by omega) (by omega) hI hS hi kk
    · refine zk_tableIn hc 532 dL_law_32 (by decide) (by decide) rfl (by decide) ?_
      exact lk_c16 hk (by omega) (by omega) (by omega) hI hS hi kk
    · refine zk_tableIn hc 575 dL_law_32 (by decide) (by decide) rfl (by decide) ?_
      exact lk_c17 hk (by omega) (by omega) (by omega) hI hS hi kk
    · refine zk_tableIn hc 598 dL_law_32 (by decide) (by decide) rfl (by decide) ?_
      exact lk_c18 hk (by omega) (by omega) (by omega) hI hS hi kk
    · refine zk_tableIn hc 631 dL_law_32 (by decide) (by decide) rfl (by decide) ?_
      exact lk_c19 hk (by omega) (by omega) (by omega) hI hS hi kk
    · refine zk_tableIn hc 674 dL_law_32 (by decide) (by decide) rfl (by decide) ?_
      exact lk_c20 hk (by omega) (by omega) (by omega) hI hS hi kk
    · refine zk_tableIn hc 717 dL_law_32 (by decide) (by decide) rfl (by decide) ?_
      exact lk_c21 hk (by omega) (by omega) (by omega) hI hS hi kk
    · refine zk_tableIn hc 750 dL_law_32 (by decide) (by decide) rfl (by decide) ?_
      exact lk_c22 hk (by omega) (by omega) (by omega) hI hS hi kk
    · refine zk_tableIn hc 773 dL_law_32 (by decide) (by decide) rfl (by decide) ?_
      exact lk_c23 hk (by omega) (by omega) (by omega) hI hS hi kk
    · refine zk_tableOut hc 796 dL_law_32 (Or.inr (by rw [nI_toInt (by omega)]; omega)) (by decide) ?_
      refine zk_widen (k2 := 46 + 7 * j + 7) (n2 := 2407 + 72 * j + 72) (by omega) (by omega) ?_
      exact kk S X W (INV_up hI) hS
