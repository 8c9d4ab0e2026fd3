/-! order: pure -/
theorem zDs_ex (E : Nat → Nat → Prop) (O : Nat → Bool) (p v : Nat) : ∃ r, zDs E O p v r := by
  by_cases h : ∃ m, zRc E O p m v
  · obtain ⟨m, hm⟩ := h
    have key : ∀ b m, m ≤ b → zRc E O p m v → ∃ k, zRc E O p k v ∧ ∀ j, j < k → ¬ zRc E O p j v := by
      intro b
      induction b with
      | zero =>
        intro m h1 h2
        obtain rfl : m = 0 := by omega
        exact ⟨0, h2, fun j hj => absurd hj (by omega)⟩
      | succ b ih =>
        intro m h1 h2
        by_cases g : ∃ j, j < m ∧ zRc E O p j v
        · obtain ⟨j, h3, h4⟩ := g
          exact ih j (by omega) h4
        · exact ⟨m, h2, fun j hj q => g ⟨j, hj, q⟩⟩
    obtain ⟨k, h1, h2⟩ := key m m (Nat.le_refl _) hm
    exact ⟨some k, h1, h2⟩
  · exact ⟨none, fun k q => h ⟨k, q⟩⟩
def zWl (E : Nat → Nat → Prop) (O : Nat → Bool) (p : Nat) : Nat → Nat → Prop
  | 0, v => v = p
  | m + 1, v => ∃ u, zWl E O p m u ∧ E u v ∧ O v = true
theorem zRc_wl {E : Nat → Nat → Prop} {O : Nat → Bool} {p : Nat} : ∀ {m v : Nat}, zRc E O p m v → zWl E O p m v
  | 0, _, q => q
  | _ + 1, _, ⟨u, h1, h2, h3, _⟩ => ⟨u, zRc_wl h1, h2, h3⟩
theorem zWl_rc {E : Nat → Nat → Prop} {O : Nat → Bool} {p : Nat} : ∀ {m v : Nat}, zWl E O p m v → ∃ k, k ≤ m ∧ zRc E O p k v
  | 0, _, q => ⟨0, Nat.le_refl _, q⟩
  | m + 1, v, ⟨u, h1, h2, h3⟩ => by
    obtain ⟨k, h4, h5⟩ := zWl_rc h1
    by_cases q : v = p
    · exact ⟨0, by omega, q⟩
    · exact ⟨k + 1, by omega, u, h5, h2, h3, q⟩
theorem zWl_left {E : Nat → Nat → Prop} {O : Nat → Bool} {p u : Nat} (hE : E p u) (hO : O u = true) : ∀ {m v : Nat}, zWl E O u m v → zWl E O p (m + 1) v
  | 0, v, q => ⟨p, rfl, by rw [show v = u from q]; exact hE, by rw [show v = u from q]; exact hO⟩
  | m + 1, _, ⟨x, h1, h2, h3⟩ => ⟨x, zWl_left hE hO h1, h2, h3⟩
theorem zWl_O {E : Nat → Nat → Prop} {O : Nat → Bool} {p : Nat} (hp : O p = true) : ∀ {m v : Nat}, zWl E O p m v → O v = true
  | 0, v, q => by rw [show v = p from q]; exact hp
  | _ + 1, _, ⟨_, _, _, h3⟩ => h3
theorem zWl_rev {E : Nat → Nat → Prop} {O : Nat → Bool} {p : Nat} (hE : ∀ u v, E u v → E v u) (hp : O p = true) : ∀ {m v : Nat}, zWl E O p m v → zWl E O v m p
  | 0, _, q => Eq.symm q
  | _ + 1, _, ⟨u, h1, h2, _⟩ => zWl_left (hE u _ h2) (zWl_O hp h1) (zWl_rev hE hp h1)
theorem zDs_sym {E : Nat → Nat → Prop} {O : Nat → Bool} {p v : Nat} (hE : ∀ u v, E u v → E v u) (hp : O p = true) (hv : O v = true) {r : Option Nat} (q : zDs E O p v r) : zDs E O v p r := by
  cases r with
  | none =>
    intro k h
    obtain ⟨j, _, h2⟩ := zWl_rc (zWl_rev hE hv (zRc_wl h))
    exact q j h2
  | some m =>
    have low : ∀ k, k < m → ¬ zRc E O v k p := fun k hk h => by
      obtain ⟨j, h1, h2⟩ := zWl_rc (zWl_rev hE hv (zRc_wl h))
      exact q.2 j (by omega) h2
    obtain ⟨k, h1, h2⟩ := zWl_rc (zWl_rev hE hp (zRc_wl q.1))
    have : k = m := by
      rcases Nat.lt_or_ge k m with g | g
      · exact absurd h2 (low k g)
      · omega
    rw [this] at h2
    exact ⟨h2, low⟩
/-- ways between stops whose places are c: none where one isn't open -/
def oWd (E : Nat → Nat → Prop) (O : Nat → Bool) (c : Nat → Nat) (i k : Nat) (r : Option Nat) : Prop := (O (c i) = true ∧ O (c k) = true ∧ zDs E O (c i) (c k) r) ∨ (¬ (O (c i) = true ∧ O (c k) = true) ∧ r = none)
theorem oWd_ex (E : Nat → Nat → Prop) (O : Nat → Bool) (c : Nat → Nat) : ∃ W : Nat → Nat → Option Nat, ∀ i k, oWd E O c i k (W i k) := by
  have ex : ∀ i k, ∃ r, oWd E O c i k r := fun i k => by
    by_cases h : O (c i) = true ∧ O (c k) = true
    · obtain ⟨r, hr⟩ := zDs_ex E O (c i) (c k)
      exact ⟨r, Or.inl ⟨h.1, h.2, hr⟩⟩
    · exact ⟨none, Or.inr ⟨h, rfl⟩⟩
  exact ⟨fun i k => (ex i k).choose, fun i k => (ex i k).choose_spec⟩
theorem oWd_u {E : Nat → Nat → Prop} {O : Nat → Bool} {c : Nat → Nat} {i k : Nat} {r r' : Option Nat} (h : oWd E O c i k r) (h' : oWd E O c i k r') : r = r' := by
  rcases h with ⟨h1, h2, h3⟩ | ⟨h1, h2⟩
  · rcases h' with ⟨_, _, k3⟩ | ⟨k1, _⟩
    · exact zDs_u h3 k3
    · exact absurd ⟨h1, h2⟩ k1
  · rcases h' with ⟨k1, k2, _⟩ | ⟨_, k2⟩
    · exact absurd ⟨k1, k2⟩ h1
    · rw [h2, k2]
theorem oWd_s {E : Nat → Nat → Prop} {O : Nat → Bool} {c : Nat → Nat} {i k : Nat} {r : Option Nat} (hE : ∀ u v, E u v → E v u) (h : oWd E O c i k r) : oWd E O c k i r := by
  rcases h with ⟨h1, h2, h3⟩ | ⟨h1, h2⟩
  · exact Or.inl ⟨h2, h1, zDs_sym hE h1 h2 h3⟩
  · exact Or.inr ⟨fun q => h1 ⟨q.2, q.1⟩, h2⟩
theorem oWd_d {E : Nat → Nat → Prop} {O : Nat → Bool} {c : Nat → Nat} {i : Nat} {r : Option Nat} (h : oWd E O c i i r) : (O (c i) = true ∧ r = some 0) ∨ (¬ O (c i) = true ∧ r = none) := by
  rcases h with ⟨h1, _, h3⟩ | ⟨h1, h2⟩
  · exact Or.inl ⟨h1, zDs_u h3 (show zDs E O (c i) (c i) (some 0) from ⟨rfl, fun k hk => absurd hk (by omega)⟩)⟩
  · exact Or.inr ⟨fun q => h1 ⟨q, q⟩, h2⟩
theorem oWd_n {E : Nat → Nat → Prop} {O : Nat → Bool} {c : Nat → Nat} {i k : Nat} {r : Option Nat} (h : oWd E O c i k r) (q : ¬ O (c i) = true) : r = none := by
  rcases h with ⟨h1, _⟩ | ⟨_, h2⟩
  · exact absurd h1 q
  · exact h2
theorem oWd_h {E : Nat → Nat → Prop} {O : Nat → Bool} {c : Nat → Nat} {i k m : Nat} (h : oWd E O c i k (some m)) : O (c i) = true ∧ O (c k) = true := by
  rcases h with ⟨h1, h2, _⟩ | ⟨_, h2⟩
  · exact ⟨h1, h2⟩
  · cases h2
/-- the least, below a bound -/
def oMin (P : Nat → Bool) (g : Nat → Nat) : Nat → Nat
  | 0 => 1000000
  | n + 1 => if P n = true then min (oMin P g n) (g n) else oMin P g n
theorem oMin_t {P : Nat → Bool} {g : Nat → Nat} {n : Nat} (h : P n = true) : oMin P g (n + 1) = min (oMin P g n) (g n) := if_pos h
theorem oMin_f {P : Nat → Bool} {g : Nat → Nat} {n : Nat} (h : ¬ P n = true) : oMin P g (n + 1) = oMin P g n := if_neg h
theorem oMin_le (P : Nat → Bool) (g : Nat → Nat) : ∀ n, oMin P g n ≤ 1000000
  | 0 => Nat.le_refl _
  | n + 1 => by
    have := oMin_le P g n
    unfold oMin
    split <;> omega
theorem oMin_at {P : Nat → Bool} {g : Nat → Nat} : ∀ {n : Nat}, oMin P g n < 1000000 → ∃ k, k < n ∧ P k = true ∧ g k = oMin P g n
  | 0, h => absurd h (by show ¬ 1000000 < 1000000; omega)
  | n + 1, h => by
    by_cases q : P n = true
    · rw [oMin_t q] at h ⊢
      rcases Nat.lt_or_ge (g n) (oMin P g n) with e | e
      · exact ⟨n, by omega, q, by omega⟩
      · obtain ⟨k, h1, h2, h3⟩ := oMin_at (P := P) (g := g) (n := n) (by omega)
        exact ⟨k, by omega, h2, by omega⟩
    · rw [oMin_f q] at h ⊢
      obtain ⟨k, h1, h2, h3⟩ := oMin_at (P := P) (g := g) (n := n) h
      exact ⟨k, by omega, h2, h3⟩
theorem oMin_lb {P : Nat → Bool} {g : Nat → Nat} : ∀ {n k : Nat}, k < n → P k = true → oMin P g n ≤ g k
  | 0, _, h, _ => absurd h (by omega)
  | n + 1, k, h, q => by
    by_cases e : k = n
    · subst e
      rw [oMin_t q]
      omega
    · have ih := oMin_lb (P := P) (g := g) (n := n) (k := k) (by omega) q
      by_cases p : P n = true
      · rw [oMin_t p]
        omega
      · rw [oMin_f p]
        exact ih
theorem oMin_e {P P' : Nat → Bool} {g g' : Nat → Nat} : ∀ {n : Nat}, (∀ k, k < n → (if P k = true then min 1000000 (g k) else 1000000) = (if P' k = true then min 1000000 (g' k) else 1000000)) → oMin P g n = oMin P' g' n
  | 0, _ => rfl
  | n + 1, h => by
    have ih := oMin_e (P := P) (P' := P') (g := g) (g' := g') (n := n) (fun k hk => h k (by omega))
    have l1 := oMin_le P g n
    have l2 := oMin_le P' g' n
    have e := h n (by omega)
    by_cases q : P n = true
    · rw [oMin_t q]
      rw [if_pos q] at e
      by_cases q' : P' n = true
      · rw [oMin_t q']
        rw [if_pos q'] at e
        omega
      · rw [oMin_f q']
        rw [if_neg q'] at e
        omega
    · rw [oMin_f q]
      rw [if_neg q] at e
      by_cases q' : P' n = true
      · rw [oMin_t q']
        rw [if_pos q'] at e
        omega
      · rw [oMin_f q']
        exact ih
def oB (W : Nat → Nat → Option Nat) (i k : Nat) : Nat := (W i k).getD 1000000
def oBo (B : Nat → Nat → Nat) (last : Option Nat) (x : Nat) : Nat := match last with
  | none => 0
  | some l => B l x
/-- sets of stops -/
def oAll (s : Nat) : Nat := 1 <<< s - 1
theorem oAll_e (s : Nat) : oAll s = 2 ^ s - 1 := by unfold oAll; rw [Nat.one_shiftLeft]
theorem oAll_8 {s : Nat} (h : s ≤ 8) : oAll s < 256 := by
  rw [oAll_e]
  have : 2 ^ s ≤ 2 ^ 8 := Nat.pow_le_pow_right (by decide) h
  have := Nat.two_pow_pos s
  omega
theorem oAdd_le {s d x : Nat} (hd : d ≤ oAll s) (hx : x < s) : d ||| 1 <<< x ≤ oAll s := by
  rw [oAll_e] at hd ⊢
  have h1 := Nat.two_pow_pos s
  have h2 : d ||| 1 <<< x < 2 ^ s := Nat.or_lt_two_pow (by omega) (by rw [Nat.one_shiftLeft]; exact Nat.pow_lt_pow_right (by decide) hx)
  omega
theorem oAdd_gt {d x : Nat} (h : d.testBit x = false) : d < d ||| 1 <<< x := by
  have h1 : d ≤ d ||| 1 <<< x := Nat.left_le_or
  rcases Nat.lt_or_ge d (d ||| 1 <<< x) with g | g
  · exact g
  · exfalso
    have e : d ||| 1 <<< x = d := by omega
    have e2 := congrArg (fun a => a.testBit x) e
    simp only [Nat.testBit_or, Nat.one_shiftLeft, Nat.testBit_two_pow_self, h] at e2
    simp at e2
theorem oAdd_bit {d x y : Nat} : (d ||| 1 <<< x).testBit y = (d.testBit y || decide (x = y)) := by
  rw [Nat.testBit_or, Nat.one_shiftLeft, Nat.testBit_two_pow]
def oP (d : Nat) (x : Nat) : Bool := !d.testBit x
theorem oP_t {d x : Nat} : oP d x = true ↔ d.testBit x = false := by unfold oP; simp
/-- the class's table: the shortest rest -/
def oG (B T : Nat → Nat → Nat) (d : Nat) (last : Option Nat) (x : Nat) : Nat := oBo B last x + T (d ||| 1 <<< x) x
def oRec (s : Nat) (B T : Nat → Nat → Nat) (lo : Nat) : Prop := ∀ d, lo < d → d ≤ oAll s → ∀ l, l < s → T d l = if d = oAll s then B l l else oMin (oP d) (oG B T d (some l)) s
/-- the model's -/
def oP2 (W : Nat → Nat → Option Nat) (d l x : Nat) : Bool := oP d x && (W l x).isSome
def oG2 (W : Nat → Nat → Option Nat) (U : Nat → Nat → Nat) (d l x : Nat) : Nat := (W l x).getD 0 + U (d ||| 1 <<< x) x
def oRec2 (s : Nat) (W : Nat → Nat → Option Nat) (U : Nat → Nat → Nat) (lo : Nat) : Prop := ∀ d, lo < d → d ≤ oAll s → ∀ l, l < s → U d l = if d = oAll s then 0 else oMin (oP2 W d l) (oG2 W U d l) s
theorem oRec_un {E : Nat → Nat → Prop} {O : Nat → Bool} {c : Nat → Nat} {W : Nat → Nat → Option Nat} {T : Nat → Nat → Nat} {s lo d l : Nat} (hW : ∀ i k, oWd E O c i k (W i k)) (h : oRec s (oB W) T lo) (h1 : lo < d) (h2 : d ≤ oAll s) (hl : l < s) (hn : ¬ O (c l) = true) : T d l = 1000000 := by
  have e : ∀ x, oB W l x = 1000000 := fun x => by unfold oB; rw [oWd_n (hW l x) hn]; rfl
  rw [h d h1 h2 l hl]
  split
  · exact e l
  · rw [oMin_e (P' := fun _ => false) (g' := fun _ => 0) (fun k hk => by
      have e1 : oG (oB W) T d (some l) k = oB W l k + T (d ||| 1 <<< k) k := rfl
      rw [e1, e k]
      split <;> simp)]
    have : ∀ n, oMin (fun _ => false) (fun _ => 0) n = 1000000 := by
      intro n
      induction n with
      | zero => rfl
      | succ n ih => rw [oMin_f (by decide), ih]
    exact this s
theorem oRec_eq {E : Nat → Nat → Prop} {O : Nat → Bool} {c : Nat → Nat} {W : Nat → Nat → Option Nat} {T U : Nat → Nat → Nat} {s : Nat} (hW : ∀ i k, oWd E O c i k (W i k)) (h : oRec s (oB W) T 0) (h' : oRec2 s W U 0) : ∀ m d l, d + m = oAll s → 0 < d → l < s → O (c l) = true → U d l = T d l := by
  intro m
  induction m using Nat.strongRecOn with
  | ind m ih =>
    intro d l hd h0 hl hO
    rw [h d h0 (by omega) l hl, h' d h0 (by omega) l hl]
    by_cases e : d = oAll s
    · rw [if_pos e, if_pos e]
      unfold oB
      rcases oWd_d (hW l l) with ⟨_, q⟩ | ⟨q, _⟩
      · rw [q]
        rfl
      · exact absurd hO q
    · rw [if_neg e, if_neg e]
      refine oMin_e (fun x hx => ?_)
      unfold oP2 oG2
      have e1 : oG (oB W) T d (some l) x = oB W l x + T (d ||| 1 <<< x) x := rfl
      rw [e1]
      unfold oB
      cases hb : oP d x with
      | false => simp
      | true =>
        cases hw : W l x with
        | none => simp
        | some m' =>
          have g := hW l x
          rw [hw] at g
          have hx2 := (oWd_h g).2
          have h3 := oAdd_gt (oP_t.mp hb)
          have h4 := oAdd_le (s := s) (d := d) (x := x) (by omega) hx
          have h5 := ih (oAll s - (d ||| 1 <<< x)) (by omega) (d ||| 1 <<< x) x (by omega) (by omega) hx hx2
          rw [h5]
          simp
/-- the order that is told -/
def oSet (X : Nat → Nat) : Nat → Nat
  | 0 => 0
  | n + 1 => oSet X n ||| 1 <<< X n
def oLast (X : Nat → Nat) : Nat → Option Nat
  | 0 => none
  | n + 1 => some (X n)
def oV (s : Nat) (B T : Nat → Nat → Nat) (d : Nat) (last : Option Nat) : Nat := oMin (oP d) (oG B T d last) s
def oPick (s : Nat) (B T : Nat → Nat → Nat) (d : Nat) (last : Option Nat) (x : Nat) : Bool := oP d x && decide (oG B T d last x = oV s B T d last)
def oFirst (s : Nat) (B T : Nat → Nat → Nat) (d : Nat) (last : Option Nat) (x : Nat) : Prop := x < s ∧ oPick s B T d last x = true ∧ ∀ j, j < x → ¬ oPick s B T d last j = true
theorem oFirst_ex {s : Nat} {B T : Nat → Nat → Nat} {d : Nat} {last : Option Nat} (h : oV s B T d last < 1000000) : ∃ x, x < s ∧ oPick s B T d last x = true := by
  obtain ⟨k, h1, h2, h3⟩ := oMin_at h
  exact ⟨k, h1, by unfold oPick; rw [h2, Bool.true_and, decide_eq_true_eq]; exact h3⟩
def oSeq (s : Nat) (B T : Nat → Nat → Nat) (X : Nat → Nat) (n : Nat) : Prop := ∀ i, i < n → oFirst s B T (oSet X i) (oLast X i) (X i)
theorem oPick_t {s : Nat} {B T : Nat → Nat → Nat} {d : Nat} {last : Option Nat} {x : Nat} : oPick s B T d last x = true ↔ (d.testBit x = false ∧ oG B T d last x = oV s B T d last) := by
  unfold oPick
  rw [Bool.and_eq_true, decide_eq_true_eq, oP_t]
theorem oSet_c {X X' : Nat → Nat} : ∀ {n : Nat}, (∀ i, i < n → X i = X' i) → oSet X n = oSet X' n
  | 0, _ => rfl
  | n + 1, h => by
    show oSet X n ||| 1 <<< X n = oSet X' n ||| 1 <<< X' n
    rw [oSet_c (fun i hi => h i (by omega)), h n (by omega)]
theorem oSet_cnt {X : Nat → Nat} {s : Nat} : ∀ {n : Nat}, (∀ i, i < n → X i < s ∧ (oSet X i).testBit (X i) = false) → zcnt (oSet X n).testBit s = n ∧ oSet X n ≤ oAll s
  | 0, _ => ⟨zcnt_0.mpr (fun i _ => by show ¬ (0 : Nat).testBit i = true; simp), Nat.zero_le _⟩
  | n + 1, h => by
    obtain ⟨h1, h2⟩ := oSet_cnt (n := n) (fun i hi => h i (by omega))
    have hx := h n (by omega)
    refine ⟨?_, oAdd_le h2 hx.1⟩
    have := zcnt_rm (P := (oSet X n ||| 1 <<< X n).testBit) (R := (oSet X n).testBit) (k := X n) (by rw [oAdd_bit]; simp) hx.2 (fun i hi => by
      rw [oAdd_bit]
      have : ¬ X n = i := fun q => hi q.symm
      simp [this]) (n := s)
    rw [if_pos hx.1, h1] at this
    exact this.symm
theorem oAll_cnt (s : Nat) : zcnt (oAll s).testBit s = s := by
  have : ∀ n, n ≤ s → zcnt (oAll s).testBit n = n := by
    intro n
    induction n with
    | zero => intro _; rfl
    | succ n ih =>
      intro h
      rw [zcnt_t (by rw [oAll_e, Nat.testBit_two_pow_sub_one]; simp; omega), ih (by omega)]
  exact this s (Nat.le_refl _)
/-- what is left behind a pick -/
theorem oSeq_next {s : Nat} {B T : Nat → Nat → Nat} {X : Nat → Nat} {n : Nat} (h : oRec s B T 0) (hS : oSeq s B T X (n + 1)) (hn : n + 1 < s) : oV s B T (oSet X (n + 1)) (oLast X (n + 1)) = T (oSet X (n + 1)) (X n) := by
  have hc := oSet_cnt (X := X) (s := s) (n := n + 1) (fun i hi => ⟨(hS i hi).1, (oPick_t.mp (hS i hi).2.1).1⟩)
  have hx := (hS n (by omega)).1
  have hne : oSet X (n + 1) ≠ oAll s := fun q => by
    have := hc.1
    rw [q, oAll_cnt] at this
    omega
  have h0 : 0 < oSet X (n + 1) := by
    have := oAdd_gt (oPick_t.mp (hS n (by omega)).2.1).1
    show 0 < oSet X n ||| 1 <<< X n
    omega
  have e := h (oSet X (n + 1)) h0 hc.2 (X n) hx
  rw [if_neg hne] at e
  exact e.symm
theorem oSeq_step {s : Nat} {B T : Nat → Nat → Nat} {X : Nat → Nat} {n : Nat} (hS : oSeq s B T X (n + 1)) : oBo B (oLast X n) (X n) + T (oSet X (n + 1)) (X n) = oV s B T (oSet X n) (oLast X n) := (oPick_t.mp (hS n (by omega)).2.1).2
/-- whatever is left stays below -/
theorem oSeq_lt {s : Nat} {B T : Nat → Nat → Nat} {X : Nat → Nat} (h : oRec s B T 0) (h0 : oV s B T 0 none < 1000000) : ∀ {n : Nat}, oSeq s B T X n → n < s → oV s B T (oSet X n) (oLast X n) < 1000000
  | 0, _, _ => h0
  | n + 1, hS, hn => by
    have ih := oSeq_lt h h0 (n := n) (fun i hi => hS i (by omega)) (by omega)
    rw [oSeq_next h hS hn]
    have := oSeq_step hS
    omega
