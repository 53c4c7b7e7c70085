/-! the rows that the search finds can be made, move by move -/
def rowU (u : Nat → Nat) : List MV → (Nat → Nat)
  | [] => u
  | x :: r => rowU (nxU u x.1 x.2.1 x.2.2) r
def okRow (u : Nat → Nat) : List MV → Prop
  | [] => True
  | x :: r => okM u x.1 x.2.1 x.2.2 ∧ okRow (nxU u x.1 x.2.1 x.2.2) r
def tot (u : Nat → Nat) : List MV → Nat
  | [] => 0
  | x :: r => mins u x.1 x.2.1 x.2.2 + tot (nxU u x.1 x.2.1 x.2.2) r
theorem rowU_app (u : Nat → Nat) (r : List MV) (x : MV) : rowU u (r ++ [x]) = nxU (rowU u r) x.1 x.2.1 x.2.2 := by
  induction r generalizing u with
  | nil => rfl
  | cons y r ih => exact ih _
theorem okRow_app {u : Nat → Nat} {r : List MV} {x : MV} : okRow u (r ++ [x]) ↔ okRow u r ∧ okM (rowU u r) x.1 x.2.1 x.2.2 := by
  induction r generalizing u with
  | nil => exact ⟨fun h => ⟨trivial, h.1⟩, fun h => ⟨h.2, trivial⟩⟩
  | cons y r ih =>
    show okM _ _ _ _ ∧ okRow _ (r ++ [x]) ↔ (okM _ _ _ _ ∧ okRow _ r) ∧ _
    rw [ih, and_assoc]
    rfl
theorem tot_app (u : Nat → Nat) (r : List MV) (x : MV) : tot u (r ++ [x]) = tot u r + mins (rowU u r) x.1 x.2.1 x.2.2 := by
  induction r generalizing u with
  | nil => show mins u x.1 x.2.1 x.2.2 + 0 = 0 + mins u x.1 x.2.1 x.2.2; omega
  | cons y r ih =>
    show mins _ _ _ _ + tot _ (r ++ [x]) = mins _ _ _ _ + tot _ r + _
    rw [ih]
    show _ + (_ + mins (rowU _ r) _ _ _) = _ + mins (rowU _ r) _ _ _
    omega
theorem rowU_GU {u : Nat → Nat} {r : List MV} (h : GU u) (ho : okRow u r) : GU (rowU u r) := by
  induction r generalizing u with
  | nil => exact h
  | cons y r ih => exact ih (nx_GU h ho.1) ho.2
def GR (R : Nat × List MV → Prop) (b : BST) : Prop := ∀ z, b = some z → R z
section GRS
variable {R : Nat × List MV → Prop} {V : VIS} {u : Nat → Nat} {row : List MV} {m : Nat}
theorem fN_R {f t : Nat} (k : Nat) (h : ∀ n b, 1 ≤ n → n ≤ k → GR R b → GR R (stp V u row m f t n b)) {b : BST} (hb : GR R b) : GR R (fN V u row m f t k b) := by
  induction k with
  | zero => exact hb
  | succ k ih => exact h (k + 1) _ (by omega) (by omega) (ih (fun n b h1 h2 => h n b h1 (by omega)))
theorem fT_R {f : Nat} (k : Nat) (h : ∀ t n b, t < k → 1 ≤ n → n ≤ mny u f → GR R b → GR R (stp V u row m f t n b)) {b : BST} (hb : GR R b) : GR R (fT V u row m f k b) := by
  induction k with
  | zero => exact hb
  | succ k ih => exact fN_R _ (fun n b => h k n b (by omega)) (ih (fun t n b h1 => h t n b (by omega)))
theorem fF_R (k : Nat) (h : ∀ f t n b, f < k → t < u 4 → 1 ≤ n → n ≤ mny u f → GR R b → GR R (stp V u row m f t n b)) {b : BST} (hb : GR R b) : GR R (fF V u row m k b) := by
  induction k with
  | zero => exact hb
  | succ k ih => exact fT_R _ (fun t n b => h k t n b (by omega)) (ih (fun f t n b h1 => h f t n b (by omega)))
end GRS
theorem vis_R {u0 : Nat → Nat} {mo : Nat} (d : Nat) : ∀ (row : List MV) (b : BST), okRow u0 row → row.length + d = mo → GR (fun z => okRow u0 z.2 ∧ z.1 = tot u0 z.2 ∧ z.2.length ≤ mo) b → GR (fun z => okRow u0 z.2 ∧ z.1 = tot u0 z.2 ∧ z.2.length ≤ mo) (vis d (rowU u0 row) row (tot u0 row) b) := by
  have hrec : ∀ (row : List MV) (b : BST), okRow u0 row → row.length ≤ mo → GR (fun z => okRow u0 z.2 ∧ z.1 = tot u0 z.2 ∧ z.2.length ≤ mo) b → GR (fun z => okRow u0 z.2 ∧ z.1 = tot u0 z.2 ∧ z.2.length ≤ mo) (rec1 b (tot u0 row) row) := by
    intro row b ho hl hb
    unfold rec1
    split
    · intro z hz
      cases hz
      exact ⟨ho, rfl, hl⟩
    · exact hb
  induction d with
  | zero =>
    intro row b ho hl hb
    unfold vis
    split
    · exact hrec row b ho (by omega) hb
    · exact hb
  | succ d ih =>
    intro row b ho hl hb
    unfold vis
    split
    · exact hrec row b ho (by omega) hb
    · refine fF_R _ (fun f t n b hf ht hn1 hn hb => ?_) hb
      unfold stp
      split
      · exact hb
      · rename_i hc
        have hk : okM (rowU u0 row) f t n := ⟨hf, ht, fun e => hc (Or.inl e), hn1, hn, fun e => hc (Or.inr e)⟩
        have h2 := ih (row ++ [(f, t, n)]) b (okRow_app.mpr ⟨ho, hk⟩) (by rw [List.length_append, List.length_singleton]; omega) hb
        rw [rowU_app, tot_app] at h2
        exact h2
theorem vis_ok {u : Nat → Nat} {mo : Nat} {z : Nat × List MV} (h : vis mo u [] 0 none = some z) : okRow u z.2 ∧ z.1 = tot u z.2 ∧ z.2.length ≤ mo :=
  vis_R (u0 := u) (mo := mo) mo [] none trivial (by simp) (fun z h => by cases h) z h
def cheN (b : BST) (k : Nat) : Int32 := match b with
  | none => -9
  | some z => if k = 0 then nI z.1 else if k = 1 then nI z.2.length else match z.2 with
    | [] => -9
    | x :: _ => if k = 2 then nI x.1 else if k = 3 then nI x.2.1 else nI x.2.2
def aChe (u : Nat → Nat) (v w : Int32) : Int32 := if inR 0 3 v ∧ inR 0 4 w then cheN (vis (tOf v) u [] 0 none) (tOf w) else -1
def makN (b : BST) : Int32 := match b with
  | none => -2
  | some z => nI z.1
def makS (S : AS) (b : BST) : AS := match b with
  | none => S
  | some z => chg S (rowU S.1 z.2)
def aMak (u : Nat → Nat) (v : Int32) : Int32 := if inR 0 3 v then makN (vis (tOf v) u [] 0 none) else -1
def nMak (S : AS) (v : Int32) : AS := if inR 0 3 v then makS S (vis (tOf v) S.1 [] 0 none) else S
theorem wf_GU {N : Nat} {u : Nat → Nat} (h : Wf N u) : GU u := ⟨h.1.2, h.2.1.2, h.2.2.2.2.1.2, h.2.2.1, fun t ht => (h.2.2.2.2.2.2.2.2.1 t ht).1, h.2.2.2.2.2.2.2.2.2.2.1, h.2.2.2.2.2.2.2.1 0 (by omega), h.2.2.2.2.2.2.1⟩
theorem okRow_at {u : Nat → Nat} {r : List MV} (h : okRow u r) {q : Nat} {x : MV} (hx : r[q]? = some x) : okRow u (r.take q) ∧ okM (rowU u (r.take q)) x.1 x.2.1 x.2.2 ∧ rowU u (r.take (q + 1)) = nxU (rowU u (r.take q)) x.1 x.2.1 x.2.2 := by
  induction r generalizing u q with
  | nil => simp at hx
  | cons y r ih =>
    cases q with
    | zero =>
      cases hx
      exact ⟨trivial, h.1, rfl⟩
    | succ q =>
      obtain ⟨h1, h2, h3⟩ := ih h.2 hx
      exact ⟨⟨h.1, h1⟩, h2, h3⟩
theorem che_0 {z : Nat × List MV} {k : Nat} (h0 : k ≠ 0) (h1 : k ≠ 1) (hl : z.2.length = 0) : cheN (some z) k = -9 := by
  obtain ⟨a, r⟩ := z
  cases r with
  | nil =>
    show (if k = 0 then _ else if k = 1 then _ else _) = _
    rw [if_neg h0, if_neg h1]
  | cons x r => exact absurd hl (by simp)
theorem che_x {z : Nat × List MV} {k : Nat} {be : Nat → Nat} (h0 : k ≠ 0) (h1 : k ≠ 1) (hl : z.2.length ≠ 0) (hz3 : ∀ (i : Nat) (x : MV), z.2[i]? = some x → be (3 * i) = x.1 ∧ be (3 * i + 1) = x.2.1 ∧ be (3 * i + 2) = x.2.2) (hk : k ≤ 4) : nI (be (k - 2)) = cheN (some z) k := by
  obtain ⟨a, r⟩ := z
  cases r with
  | nil => exact absurd rfl hl
  | cons x r =>
    obtain ⟨e1, e2, e3⟩ := hz3 0 x rfl
    show _ = (if k = 0 then _ else if k = 1 then _ else if k = 2 then nI x.1 else if k = 3 then nI x.2.1 else nI x.2.2)
    rw [if_neg h0, if_neg h1]
    rcases (show k = 2 ∨ k = 3 ∨ k = 4 by omega) with rfl | rfl | rfl
    · rw [if_pos rfl]; exact congrArg nI e1
    · rw [if_neg (by decide), if_pos rfl]; exact congrArg nI e2
    · rw [if_neg (by decide), if_neg (by decide)]; exact congrArg nI e3
