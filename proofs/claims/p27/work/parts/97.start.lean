set_option maxHeartbeats 4000000 in
theorem whole_start {p : Program} {e : Env} {s : State} {m : MethodId} {below : List Frame} {meth : Method} {c : Code} (l : Launch) (hflags : l.flags = flags0) {b L : Nat} {xs : Nat → Int32} (hL : L ≤ 260) (C0 : lw_At p s m meth c b L xs) : W p l e room_1 s m #[Value.ref b] below meth c s.heap [] 0 0 (lw_Z below #[Value.ref b] s) (entryFrame m ([Value.ref b] : List Value).toArray 7) := by
  obtain ⟨hx, hb, hr, hml, hown, hts, hX, hbl, hlocks, hgv⟩ := id C0
  have hwl : ∀ w ∈ wsL_law, w.before #[Value.ref b] s = true := fun w hw => hts w (wsL_law_in w hw)
  obtain ⟨g, hVK⟩ := lk_vk hts hwl
  have hA : ∀ q : Nat, s.heap.size ≤ q → (fun q : Nat => s.heap.size ≤ q) q := fun _ h => h
  have hc : KC g p s m #[Value.ref b] c cL_law 7 RL (fun q : Nat => s.heap.size ≤ q) s.heap meth := ⟨hx, hb, hml, hown, hwl, hVK, hA, hlocks⟩
  have hk : LK g p s m #[Value.ref b] c (fun q : Nat => s.heap.size ≤ q) s.heap meth b L xs := ⟨hc, hX, hbl, Nat.not_le.mpr hbl, hL⟩
  have hend : ∀ (cells slots : Nat) (ws : va_W) (lv : List (Nat × Value)), cells ≤ 600000 → slots ≤ 7302250 → KW g p l e room_1 s m #[Value.ref b] below meth c 7 (fun q : Nat => s.heap.size ≤ q) s.heap cells slots (lw_Z below #[Value.ref b] s) ws lv 175 [.int (nI 1)] := by
    intro cells slots ws lv h1 h2
    intro H locs ls hP hD hS hl
    refine va_forget (fun q hq => hS.2.2 q hq) ?_
    refine W.widen h1 h2 ?_
    refine W.base ?_
    exact lw_ret (Drawn.sameBut.refl s.drawn lw_cs) hx hb hr hlocks dL_law_175
  have hl := lv_entry ([Value.ref b]) (n := 7) (Nat.le_of_ble_eq_true rfl)
  rw [lg_entry_eq]
  generalize (lg_sl ([Value.ref b]) ++ List.replicate (7 - (lg_sl ([Value.ref b])).length) Slot.unset).toArray = ls at hl ⊢
  have hP : va_P g.1 vwCl [] s.heap := fun k q h => by simp at h
  have hD : va_D (fun q : Nat => s.heap.size ≤ q) [] := ⟨fun i j p q h => by simp at h, fun k q h => by simp at h⟩
  exact lk_run hk hend s.heap [] ls hP hD va_S.rf hl
