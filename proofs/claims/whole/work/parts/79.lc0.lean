theorem lk_c0 {g : GG} {p : Program} {l : Launch} {e : Env} {s : State} {m : MethodId} {args : Array Value} {below : List Frame} {meth : Method} {c : Code} {A : Nat → Prop} {H0 : Heap} {Q : State → Prop} {sb L : Nat} {xs : Nat → Int32} (hk : LK g p s m args c A H0 meth sb L xs) {cells slots N : Nat} (hN : N ≤ 511) (hc1 : cells + 7 ≤ 600000) (hs1 : slots + 72 ≤ 7302250) {b : Nat} {a : Nat → Nat} {S : AS} {X : SC} {W : va_W} (hI : INV N S) (hS : CSt g b S W) {i : Nat} (hi : i + 4 ≤ L) (kk : ∀ S2 X2 W2, INV (N + 1) S2 → CSt g b S2 W2 → KW g p l e room_1 s m args below meth c 8 A H0 (cells + 7) (slots + 72) Q (MSW g.2.1 a S2 X2 ++ W2) [(0, .ref sb), (1, .ref b), (2, .ref (a 0)), (3, .int (nI i))] 796 []) : KW g p l e room_1 s m args below meth c 8 A H0 cells slots Q (MSW g.2.1 a S X ++ W) [(0, .ref sb), (1, .ref b), (2, .ref (a 0)), (3, .int (nI i))] 144 [] := by
  have hc := hk.1
  obtain ⟨fb, hb⟩ := lk_at (S0 := S) (X := X) (a := a) hS
  refine zk_aload_n hc dL_law_144 1 rfl ?_
  refine zk_aload_n hc dL_law_145 0 rfl ?_
  refine zk_iload_n hc dL_law_146 3 rfl ?_
  refine zk_iconst hc (nI 1) dL_law_147 rfl ?_
  refine zk_iaddN hc dL_law_148 ?_
  refine lk_ld hk (by omega) dL_law_149 ?_
  refine zk_aload_n hc dL_law_150 0 rfl ?_
  refine zk_iload_n hc dL_law_151 3 rfl ?_
  refine zk_iconst hc (nI 2) dL_law_152 rfl ?_
  refine zk_iaddN hc dL_law_153 ?_
  refine lk_ld hk (by omega) dL_law_154 ?_
  refine zk_callVi hc (rest := []) (kx_begin g l b S W N (by omega) hI hS (xs (i + 1)) (xs (i + 2))) gg_L_13 cd_X6_begin ⟨Nat.le_of_ble_eq_true rfl, Nat.le_of_ble_eq_true rfl⟩ ⟨(by show cells + 7 ≤ 600000; omega), (by show slots + 72 ≤ 7302250; omega)⟩ (MSW g.2.1 a S X) [] (by rw [List.append_nil]) 13 hb rfl rfl (Nat.le_of_ble_eq_true rfl) dL_law_155 (fun r W1 hp => ?_)
  obtain ⟨rfl, hS2⟩ := hp
  obtain ⟨fm, hm⟩ := lk_am (g := g) (a := a) (S0 := S) (X := X) (W := W1 ++ [])
  refine zk_aload_n hc dL_law_158 2 rfl ?_
  refine zk_aload_n hc dL_law_159 0 rfl ?_
  refine zk_iload_n hc dL_law_160 3 rfl ?_
  refine zk_iconst hc (nI 1) dL_law_161 rfl ?_
  refine zk_iaddN hc dL_law_162 ?_
  refine lk_ld hk (by omega) dL_law_163 ?_
  refine zk_aload_n hc dL_law_164 0 rfl ?_
  refine zk_iload_n hc dL_law_165 3 rfl ?_
  refine zk_iconst hc (nI 2) dL_law_166 rfl ?_
  refine zk_iaddN hc dL_law_167 ?_
  refine lk_ld hk (by omega) dL_law_168 ?_
  refine zk_callVi hc (rest := [.int (aBeg S.1 (xs (i + 1)) (xs (i + 2)))]) (km_begin g l a S X N (by omega) hI (xs (i + 1)) (xs (i + 2))) gg_L_17 cd_X7_begin ⟨Nat.le_of_ble_eq_true rfl, Nat.le_of_ble_eq_true rfl⟩ ⟨(by show cells + 7 + 0 ≤ 600000; omega), (by show slots + 72 + 0 ≤ 7302250; omega)⟩ [] (W1 ++ []) rfl 0 hm rfl rfl (Nat.le_of_ble_eq_true rfl) dL_law_169 (fun r W2 hp => ?_)
  obtain ⟨rfl, X2, rfl⟩ := hp
  refine zk_icmp_eq hc 796 dL_law_172 (by decide) (fun _ => ?_) (fun h => absurd rfl h)
  refine zk_widen (k2 := cells + 7) (n2 := slots + 72) (by show cells + 7 + 0 ≤ cells + 7; omega) (by show slots + 72 + 0 ≤ slots + 72; omega) ?_
  refine zk_ws (ws2 := MSW g.2.1 a (nBeg S (xs (i + 1)) (xs (i + 2))) X2 ++ W1) (by rw [List.append_nil, List.nil_append]) ?_
  exact kk _ X2 W1 (INV_beg hI (xs (i + 1)) (xs (i + 2))) hS2

theorem lk_c1 {g : GG} {p : Program} {l : Launch} {e : Env} {s : State} {m : MethodId} {args : Array Value} {below : List Frame} {meth : Method} {c : Code} {A : Nat → Prop} {H0 : Heap} {Q : State → Prop} {sb L : Nat} {xs : Nat → Int32} (hk : LK g p s m args c A H0 meth sb L xs) {cells slots N : Nat} (hN : N ≤ 511) (hc1 : cells + 7 ≤ 600000) (hs1 : slots + 72 ≤ 7302250) {b : Nat} {a : Nat → Nat} {S : AS} {X : SC} {W : va_W} (hI : INV N S) (hS : CSt g b S W) {i : Nat} (hi : i + 4 ≤ L) (kk : ∀ S2 X2 W2, INV (N + 1) S2 → CSt g b S2 W2 → KW g p l e room_1 s m args below meth c 8 A H0 (cells + 7) (slots + 72) Q (MSW g.2.1 a S2 X2 ++ W2) [(0, .ref sb), (1, .ref b), (2, .ref (a 0)), (3, .int (nI i))] 796 []) : KW g p l e room_1 s m args below meth c 8 A H0 cells slots Q (MSW g.2.1 a S X ++ W) [(0, .ref sb), (1, .ref b), (2, .ref (a 0)), (3, .int (nI i))] 177 [] := by
  have hc := hk.1
  obtain ⟨fb, hb⟩ := lk_at (S0 := S) (X := X) (a := a) hS
  refine zk_aload_n hc dL_law_177 1 rfl ?_
  refine zk_aload_n hc dL_law_178 0 rfl ?_
  refine zk_iload_n hc dL_law_179 3 rfl ?_
  refine zk_iconst hc (nI 1) dL_law_180 rfl ?_
  refine zk_iaddN hc dL_law_181 ?_
  refine lk_ld hk (by omega) dL_law_182 ?_
  refine zk_aload_n hc dL_law_183 0 rfl ?_
  refine zk_iload_n hc dL_law_184 3 rfl ?_
  refine zk_iconst hc (nI 2) dL_law_185 rfl ?_
  refine zk_iaddN hc dL_law_186 ?_
  refine lk_ld hk (by omega) dL_law_187 ?_
  refine zk_callVi hc (rest := []) (kx_set g l b S W N (by omega) hI hS (xs (i + 1)) (xs (i + 2))) gg_L_18 cd_X6_set ⟨Nat.le_of_ble_eq_true rfl, Nat.le_of_ble_eq_true rfl⟩ ⟨(by show cells + 7 ≤ 600000; omega), (by show slots + 72 ≤ 7302250; omega)⟩ (MSW g.2.1 a S X) [] (by rw [List.append_nil]) 13 hb rfl rfl (Nat.le_of_ble_eq_true rfl) dL_law_188 (fun r W1 hp => ?_)
  obtain ⟨rfl, hS2⟩ := hp
  obtain ⟨fm, hm⟩ := lk_am (g := g) (a := a) (S0 := S) (X := X) (W := W1 ++ [])
  refine zk_aload_n hc dL_law_191 2 rfl ?_
  refine zk_aload_n hc dL_law_192 0 rfl ?_
  refine zk_iload_n hc dL_law_193 3 rfl ?_
  refine zk_iconst hc (nI 1) dL_law_194 rfl ?_
  refine zk_iaddN hc dL_law_195 ?_
  refine lk_ld hk (by omega) dL_law_196 ?_
  refine zk_aload_n hc dL_law_197 0 rfl ?_
  refine zk_iload_n hc dL_law_198 3 rfl ?_
  refine zk_iconst hc (nI 2) dL_law_199 rfl ?_
  refine zk_iaddN hc dL_law_200 ?_
  refine lk_ld hk (by omega) dL_law_201 ?_
  refine zk_callVi hc (rest := [.int (aSet S.1 (xs (i + 1)) (xs (i + 2)))]) (km_set g l a S X N (by omega) hI (xs (i + 1)) (xs (i + 2))) gg_L_21 cd_X7_set ⟨Nat.le_of_ble_eq_true rfl, Nat.le_of_ble_eq_true rfl⟩ ⟨(by show cells + 7 + 0 ≤ 600000; omega), (by show slots + 72 + 0 ≤ 7302250; omega)⟩ [] (W1 ++ []) rfl 0 hm rfl rfl (Nat.le_of_ble_eq_true rfl) dL_law_202 (fun r W2 hp => ?_)
  obtain ⟨rfl, X2, rfl⟩ := hp
  refine zk_icmp_eq hc 796 dL_law_205 (by decide) (fun _ => ?_) (fun h => absurd rfl h)
  refine zk_widen (k2 := cells + 7) (n2 := slots + 72) (by show cells + 7 + 0 ≤ cells + 7; omega) (by show slots + 72 + 0 ≤ slots + 72; omega) ?_
  refine zk_ws (ws2 := MSW g.2.1 a (nSet S (xs (i + 1)) (xs (i + 2))) X2 ++ W1) (by rw [List.append_nil, List.nil_append]) ?_
  exact kk _ X2 W1 (INV_set hI (xs (i + 1)) (xs (i + 2))) hS2

theorem lk_c2 {g : GG} {p : Program} {l : Launch} {e : Env} {s : State} {m : MethodId} {args : Array Value} {below : List Frame} {meth : Method} {c : Code} {A : Nat → Prop} {H0 : Heap} {Q : State → Prop} {sb L : Nat} {xs : Nat → Int32} (hk : LK g p s m args c A H0 meth sb L xs) {cells slots N : Nat} (hN : N ≤ 511) (hc1 : cells + 7 ≤ 600000) (hs1 : slots + 72 ≤ 7302250) {b : Nat} {a : Nat → Nat} {S : AS} {X : SC} {W : va_W} (hI : INV N S) (hS : CSt g b S W) {i : Nat} (hi : i + 4 ≤ L) (kk : ∀ S2 X2 W2, INV (N + 1) S2 → CSt g b S2 W2 → KW g p l e room_1 s m args below meth c 8 A H0 (cells + 7) (slots + 72) Q (MSW g.2.1 a S2 X2 ++ W2) [(0, .ref sb), (1, .ref b), (2, .ref (a 0)), (3, .int (nI i))] 796 []) : KW g p l e room_1 s m args below meth c 8 A H0 cells slots Q (MSW g.2.1 a S X ++ W) [(0, .ref sb), (1, .ref b), (2, .ref (a 0)), (3, .int (nI i))] 210 [] := by
  have hc := hk.1
  obtain ⟨fb, hb⟩ := lk_at (S0 := S) (X := X) (a := a) hS
  refine zk_aload_n hc dL_law_210 1 rfl ?_
  refine zk_aload_n hc dL_law_211 0 rfl ?_
  refine zk_iload_n hc dL_law_212 3 rfl ?_
  refine zk_iconst hc (nI 1) dL_law_213 rfl ?_
  refine zk_iaddN hc dL_law_214 ?_
  refine lk_ld hk (by omega) dL_law_215 ?_
  refine zk_callVi hc (rest := []) (kx_arrive g l b S W N (by omega) hI hS (xs (i + 1))) gg_L_22 cd_X6_arrive ⟨Nat.le_of_ble_eq_true rfl, Nat.le_of_ble_eq_true rfl⟩ ⟨(by show cells + 7 ≤ 600000; omega), (by show slots + 72 ≤ 7302250; omega)⟩ (MSW g.2.1 a S X) [] (by rw [List.append_nil]) 13 hb rfl rfl (Nat.le_of_ble_eq_true rfl) dL_law_216 (fun r W1 hp => ?_)
  obtain ⟨rfl, hS2⟩ := hp
  obtain ⟨fm, hm⟩ := lk_am (g := g) (a := a) (S0 := S) (X := X) (W := W1 ++ [])
  refine zk_aload_n hc dL_law_219 2 rfl ?_
  refine zk_aload_n hc dL_law_220 0 rfl ?_
  refine zk_iload_n hc dL_law_221 3 rfl ?_
  refine zk_iconst hc (nI 1) dL_law_222 rfl ?_
  refine zk_iaddN hc dL_law_223 ?_
  refine lk_ld hk (by omega) dL_law_224 ?_
  refine zk_callVi hc (rest := [.int (aArr S.1 S.2.2.2.2.2.1 S.2.2.2.2.2.2.1 (xs (i + 1)))]) (km_arrive g l a S X N (by omega) hI (xs (i + 1))) gg_L_26 cd_X7_arrive ⟨Nat.le_of_ble_eq_true rfl, Nat.le_of_ble_eq_true rfl⟩ ⟨(by show cells + 7 + 0 ≤ 600000; omega), (by show slots + 72 + 0 ≤ 7302250; omega)⟩ [] (W1 ++ []) rfl 0 hm rfl rfl (Nat.le_of_ble_eq_true rfl) dL_law_225 (fun r W2 hp => ?_)
  obtain ⟨rfl, X2, rfl⟩ := hp
  refine zk_icmp_eq hc 796 dL_law_228 (by decide) (fun _ => ?_) (fun h => absurd rfl h)
  refine zk_widen (k2 := cells + 7) (n2 := slots + 72) (by show cells + 7 + 0 ≤ cells + 7; omega) (by show slots + 72 + 0 ≤ slots + 72; omega) ?_
  refine zk_ws (ws2 := MSW g.2.1 a (nArr S (xs (i + 1))) X2 ++ W1) (by rw [List.append_nil, List.nil_append]) ?_
  exact kk _ X2 W1 (INV_arr hI (xs (i + 1))) hS2

theorem lk_c3 {g : GG} {p : Program} {l : Launch} {e : Env} {s : State} {m : MethodId} {args : Array Value} {below : List Frame} {meth : Method} {c : Code} {A : Nat → Prop} {H0 : Heap} {Q : State → Prop} {sb L : Nat} {xs : Nat → Int32} (hk : LK g p s m args c A H0 meth sb L xs) {cells slots N : Nat} (hN : N ≤ 511) (hc1 : cells + 7 ≤ 600000) (hs1 : slots + 72 ≤ 7302250) {b : Nat} {a : Nat → Nat} {S : AS} {X : SC} {W : va_W} (hI : INV N S) (hS : CSt g b S W) {i : Nat} (hi : i + 4 ≤ L) (kk : ∀ S2 X2 W2, INV (N + 1) S2 → CSt g b S2 W2 → KW g p l e room_1 s m args below meth c 8 A H0 (cells + 7) (slots + 72) Q (MSW g.2.1 a S2 X2 ++ W2) [(0, .ref sb), (1, .ref b), (2, .ref (a 0)), (3, .int (nI i))] 796 []) : KW g p l e room_1 s m args below meth c 8 A H0 cells slots Q (MSW g.2.1 a S X ++ W) [(0, .ref sb), (1, .ref b), (2, .ref (a 0)), (3, .int (nI i))] 233 [] := by
  have hc := hk.1
  obtain ⟨fb, hb⟩ := lk_at (S0 := S) (X := X) (a := a) hS
  refine zk_aload_n hc dL_law_233 1 rfl ?_
  refine zk_callVi hc (rest := []) (kx_list g l b S W N (by omega) hI hS) gg_L_27 cd_X6_list ⟨Nat.le_of_ble_eq_true rfl, Nat.le_of_ble_eq_true rfl⟩ ⟨(by show cells + 7 ≤ 600000; omega), (by show slots + 72 ≤ 7302250; omega)⟩ (MSW g.2.1 a S X) [] (by rw [List.append_nil]) 13 hb rfl rfl (Nat.le_of_ble_eq_true rfl) dL_law_234 (fun r W1 hp => ?_)
  obtain ⟨rfl, hS2⟩ := hp
  obtain ⟨fm, hm⟩ := lk_am (g := g) (a := a) (S0 := S) (X := X) (W := W1 ++ [])
  refine zk_aload_n hc dL_law_237 2 rfl ?_
  refine zk_callVi hc (rest := [.int (aLis S.2.2.2.2.2.1 S.2.2.2.2.2.2.1)]) (km_list g l a S X N (by omega) hI) gg_L_31 cd_X7_list ⟨Nat.le_of_ble_eq_true rfl, Nat.le_of_ble_eq_true rfl⟩ ⟨(by show cells + 7 + 0 ≤ 600000; omega), (by show slots + 72 + 0 ≤ 7302250; omega)⟩ [] (W1 ++ []) rfl 0 hm rfl rfl (Nat.le_of_ble_eq_true rfl) dL_law_238 (fun r W2 hp => ?_)
  obtain ⟨rfl, X2, rfl⟩ := hp
  refine zk_icmp_eq hc 796 dL_law_241 (by decide) (fun _ => ?_) (fun h => absurd rfl h)
  refine zk_widen (k2 := cells + 7) (n2 := slots + 72) (by show cells + 7 + 0 ≤ cells + 7; omega) (by show slots + 72 + 0 ≤ slots + 72; omega) ?_
  refine zk_ws (ws2 := MSW g.2.1 a (nLis S) X2 ++ W1) (by rw [List.append_nil, List.nil_append]) ?_
  exact kk _ X2 W1 (INV_lis hI) hS2

theorem lk_c4 {g : GG} {p : Program} {l : Launch} {e : Env} {s : State} {m : MethodId} {args : Array Value} {below : List Frame} {meth : Method} {c : Code} {A : Nat → Prop} {H0 : Heap} {Q : State → Prop} {sb L : Nat} {xs : Nat → Int32} (hk : LK g p s m args c A H0 meth sb L xs) {cells slots N : Nat} (hN : N ≤ 511) (hc1 : cells + 7 ≤ 600000) (hs1 : slots + 72 ≤ 7302250) {b : Nat} {a : Nat → Nat} {S : AS} {X : SC} {W : va_W} (hI : INV N S) (hS : CSt g b S W) {i : Nat} (hi : i + 4 ≤ L) (kk : ∀ S2 X2 W2, INV (N + 1) S2 → CSt g b S2 W2 → KW g p l e room_1 s m args below meth c 8 A H0 (cells + 7) (slots + 72) Q (MSW g.2.1 a S2 X2 ++ W2) [(0, .ref sb), (1, .ref b), (2, .ref (a 0)), (3, .int (nI i))] 796 []) : KW g p l e room_1 s m args below meth c 8 A H0 cells slots Q (MSW g.2.1 a S X ++ W) [(0, .ref sb), (1, .ref b), (2, .ref (a 0)), (3, .int (nI i))] 246 [] := by
  have hc := hk.1
  obtain ⟨fb, hb⟩ := lk_at (S0 := S) (X := X) (a := a) hS
  refine zk_aload_n hc dL_law_246 1 rfl ?_
  refine zk_aload_n hc dL_law_247 0 rfl ?_
  refine zk_iload_n hc dL_law_248 3 rfl ?_
  refine zk_iconst hc (nI 1) dL_law_249 rfl ?_
  refine zk_iaddN hc dL_law_250 ?_
  refine lk_ld hk (by omega) dL_law_251 ?_
  refine zk_aload_n hc dL_law_252 0 rfl ?_
  refine zk_iload_n hc dL_law_253 3 rfl ?_
  refine zk_iconst hc (nI 2) dL_law_254 rfl ?_
  refine zk_iaddN hc dL_law_255 ?_
  refine lk_ld hk (by omega) dL_law_256 ?_
  refine zk_aload_n hc dL_law_257 0 rfl ?_
  refine zk_iload_n hc dL_law_258 3 rfl ?_
  refine zk_iconst hc (nI 3) dL_law_259 rfl ?_
  refine zk_iaddN hc dL_law_260 ?_
  refine lk_ld hk (by omega) dL_law_261 ?_
  refine zk_callVi hc (rest := []) (kx_move g l b S W N (by omega) hI hS (xs (i + 1)) (xs (i + 2)) (xs (i + 3))) gg_L_32 cd_X6_move ⟨Nat.le_of_ble_eq_true rfl, Nat.le_of_ble_eq_true rfl⟩ ⟨(by show cells + 7 ≤ 600000; omega), (by show slots + 72 ≤ 7302250; omega)⟩ (MSW g.2.1 a S X) [] (by rw [List.append_nil]) 13 hb rfl rfl (Nat.le_of_ble_eq_true rfl) dL_law_262 (fun r W1 hp => ?_)
  obtain ⟨rfl, hS2⟩ := hp
  obtain ⟨fm, hm⟩ := lk_am (g := g) (a := a) (S0 := S) (X := X) (W := W1 ++ [])
  refine zk_aload_n hc dL_law_265 2 rfl ?_
  refine zk_aload_n hc dL_law_266 0 rfl ?_
  refine zk_iload_n hc dL_law_267 3 rfl ?_
  refine zk_iconst hc (nI 1) dL_law_268 rfl ?_
  refine zk_iaddN hc dL_law_269 ?_
  refine lk_ld hk (by omega) dL_law_270 ?_
  refine zk_aload_n hc dL_law_271 0 rfl ?_
  refine zk_iload_n hc dL_law_272 3 rfl ?_
  refine zk_iconst hc (nI 2) dL_law_273 rfl ?_
  refine zk_iaddN hc dL_law_274 ?_
  refine lk_ld hk (by omega) dL_law_275 ?_
  refine zk_aload_n hc dL_law_276 0 rfl ?_
  refine zk_iload_n hc dL_law_277 3 rfl ?_
  refine zk_iconst hc (nI 3) dL_law_278 rfl ?_
  refine zk_iaddN hc dL_law_279 ?_
  refine lk_ld hk (by omega) dL_law_280 ?_
  refine zk_callVi hc (rest := [.int (aCos S.1 (xs (i + 1)) (xs (i + 2)) (xs (i + 3)))]) (km_move g l a S X N (by omega) hI (xs (i + 1)) (xs (i + 2)) (xs (i + 3))) gg_L_36 cd_X7_move ⟨Nat.le_of_ble_eq_true rfl, Nat.le_of_ble_eq_true rfl⟩ ⟨(by show cells + 7 + 0 ≤ 600000; omega), (by show slots + 72 + 0 ≤ 7302250; omega)⟩ [] (W1 ++ []) rfl 0 hm rfl rfl (Nat.le_of_ble_eq_true rfl) dL_law_281 (fun r W2 hp => ?_)
  obtain ⟨rfl, X2, rfl⟩ := hp
  refine zk_icmp_eq hc 796 dL_law_284 (by decide) (fun _ => ?_) (fun h => absurd rfl h)
  refine zk_widen (k2 := cells + 7) (n2 := slots + 72) (by show cells + 7 + 0 ≤ cells + 7; omega) (by show slots + 72 + 0 ≤ slots + 72; omega) ?_
  refine zk_ws (ws2 := MSW g.2.1 a (nMov S (xs (i + 1)) (xs (i + 2)) (xs (i + 3))) X2 ++ W1) (by rw [List.append_nil, List.nil_append]) ?_
  exact kk _ X2 W1 (INV_mov hI (xs (i + 1)) (xs (i + 2)) (xs (i + 3))) hS2

theorem lk_c5 {g : GG} {p : Program} {l : Launch} {e : Env} {s : State} {m : MethodId} {args : Array Value} {below : List Frame} {meth : Method} {c : Code} {A : Nat → Prop} {H0 : Heap} {Q : State → Prop} {sb L : Nat} {xs : Nat → Int32} (hk : LK g p s m args c A H0 meth sb L xs) {cells slots N : Nat} (hN : N ≤ 511) (hc1 : cells + 7 ≤ 600000) (hs1 : slots + 72 ≤ 7302250) {b : Nat} {a : Nat → Nat} {S : AS} {X : SC} {W : va_W} (hI : INV N S) (hS : CSt g b S W) {i : Nat} (hi : i + 4 ≤ L) (kk : ∀ S2 X2 W2, INV (N + 1) S2 → CSt g b S2 W2 → KW g p l e room_1 s m args below meth c 8 A H0 (cells + 7) (slots + 72) Q (MSW g.2.1 a S2 X2 ++ W2) [(0, .ref sb), (1, .ref b), (2, .ref (a 0)), (3, .int (nI i))] 796 []) : KW g p l e room_1 s m args below meth c 8 A H0 cells slots Q (MSW g.2.1 a S X ++ W) [(0, .ref sb), (1, .ref b), (2, .ref (a 0)), (3, .int (nI i))] 289 [] := by
  have hc := hk.1
  obtain ⟨fb, hb⟩ := lk_at (S0 := S) (X := X) (a := a) hS
  refine zk_aload_n hc dL_law_289 1 rfl ?_
  refine zk_aload_n hc dL_law_290 0 rfl ?_
  refine zk_iload_n hc dL_law_291 3 rfl ?_
  refine zk_iconst hc (nI 1) dL_law_292 rfl ?_
  refine zk_iaddN hc dL_law_293 ?_
  refine lk_ld hk (by omega) dL_law_294 ?_
  refine zk_callVi hc (rest := []) (kx_test g l b S W N (by omega) hI hS (xs (i + 1))) gg_L_37 cd_X6_test ⟨Nat.le_of_ble_eq_true rfl, Nat.le_of_ble_eq_true rfl⟩ ⟨(by show cells + 7 ≤ 600000; omega), (by show slots + 72 ≤ 7302250; omega)⟩ (MSW g.2.1 a S X) [] (by rw [List.append_nil]) 13 hb rfl rfl (Nat.le_of_ble_eq_true rfl) dL_law_295 (fun r W1 hp => ?_)
  obtain ⟨rfl, hS2⟩ := hp
  obtain ⟨fm, hm⟩ := lk_am (g := g) (a := a) (S0 := S) (X := X) (W := W1 ++ [])
  refine zk_aload_n hc dL_law_298 2 rfl ?_
  refine zk_aload_n hc dL_law_299 0 rfl ?_
  refine zk_iload_n hc dL_law_300 3 rfl ?_
  refine zk_iconst hc (nI 1) dL_law_301 rfl ?_
  refine zk_iaddN hc dL_law_302 ?_
  refine lk_ld hk (by omega) dL_law_303 ?_
  refine zk_callVi hc (rest := [.int (aTes S.1 (xs (i + 1)))]) (km_test g l a S X N (by omega) hI (xs (i + 1))) gg_L_40 cd_X7_test ⟨Nat.le_of_ble_eq_true rfl, Nat.le_of_ble_eq_true rfl⟩ ⟨(by show cells + 7 + 0 ≤ 600000; omega), (by show slots + 72 + 0 ≤ 7302250; omega)⟩ [] (W1 ++ []) rfl 0 hm rfl rfl (Nat.le_of_ble_eq_true rfl) dL_law_304 (fun r W2 hp => ?_)
  obtain ⟨rfl, X2, rfl⟩ := hp
  refine zk_icmp_eq hc 796 dL_law_307 (by decide) (fun _ => ?_) (fun h => absurd rfl h)
  refine zk_widen (k2 := cells + 7) (n2 := slots + 72) (by show cells + 7 + 0 ≤ cells + 7; omega) (by show slots + 72 + 0 ≤ slots + 72; omega) ?_
  refine zk_ws (ws2 := MSW g.2.1 a (nTes S (xs (i + 1))) X2 ++ W1) (by rw [List.append_nil, List.nil_append]) ?_
  exact kk _ X2 W1 (INV_tes hI (xs (i + 1))) hS2
