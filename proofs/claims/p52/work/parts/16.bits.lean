theorem zcnt_add (P : Nat → Bool) (m : Nat) : ∀ n, zcnt P (m + n) = zcnt P m + zcnt (fun i => P (m + i)) n
  | 0 => rfl
  | n + 1 => by
    show zcnt P (m + n) + _ = zcnt P m + (zcnt (fun i => P (m + i)) n + _)
    rw [zcnt_add P m n, Nat.add_assoc]
    rfl
theorem zand_split {p q s t : Nat} (hp : p < 256) (hs : s < 256) : (p + 256 * q) &&& (s + 256 * t) = (p &&& s) + 256 * (q &&& t) := by
  have h1 : ((p + 256 * q) &&& (s + 256 * t)) % 2 ^ 8 = ((p + 256 * q) % 2 ^ 8) &&& ((s + 256 * t) % 2 ^ 8) := Nat.and_mod_two_pow
  have h2 : ((p + 256 * q) &&& (s + 256 * t)) / 2 ^ 8 = ((p + 256 * q) / 2 ^ 8) &&& ((s + 256 * t) / 2 ^ 8) := Nat.and_div_two_pow
  rw [show (p + 256 * q) % 2 ^ 8 = p by omega, show (s + 256 * t) % 2 ^ 8 = s by omega] at h1
  rw [show (p + 256 * q) / 2 ^ 8 = q by omega, show (s + 256 * t) / 2 ^ 8 = t by omega] at h2
  omega
def zM5 : Nat → Nat
  | 0 => 0
  | n + 1 => 85 + 256 * zM5 n
def zM3 : Nat → Nat
  | 0 => 0
  | n + 1 => 51 + 256 * zM3 n
def zMF : Nat → Nat
  | 0 => 0
  | n + 1 => 15 + 256 * zMF n
def zx1 (n a : Nat) : Nat := a - ((a / 2) &&& zM5 n)
def zx2 (n a : Nat) : Nat := (zx1 n a &&& zM3 n) + ((zx1 n a / 4) &&& zM3 n)
def zx3 (n a : Nat) : Nat := (zx2 n a + zx2 n a / 16) &&& zMF n
def zy1 (b : Nat) : Nat := b - ((b / 2) &&& 85)
def zy2 (b : Nat) : Nat := (zy1 b &&& 51) + ((zy1 b / 4) &&& 51)
def zy3 (b : Nat) : Nat := (zy2 b + zy2 b / 16) &&& 15
theorem zx1_s (n a : Nat) : zx1 (n + 1) a = zy1 (a % 256) + 256 * zx1 n (a / 256) := by
  have e : a / 2 = ((a % 256) / 2 + 128 * (a / 256 % 2)) + 256 * (a / 256 / 2) := by omega
  have h1 : ((a % 256) / 2 + 128 * (a / 256 % 2)) &&& 85 = ((a % 256) / 2) &&& 85 := (by decide +kernel : ∀ u, u < 256 → ∀ e, e < 2 → (u / 2 + 128 * e) &&& 85 = (u / 2) &&& 85) _ (Nat.mod_lt _ (by decide)) _ (Nat.mod_lt _ (by decide))
  have h2 : ((a % 256) / 2) &&& 85 ≤ (a % 256) / 2 := Nat.and_le_left
  have h3 : (a / 256 / 2) &&& zM5 n ≤ a / 256 / 2 := Nat.and_le_left
  unfold zx1 zy1
  rw [show zM5 (n + 1) = 85 + 256 * zM5 n from rfl, e, zand_split (by omega) (by decide), h1]
  omega
theorem zy1_lt {b : Nat} (h : b < 256) : zy1 b < 256 := by unfold zy1; omega
theorem zx2_s (n a : Nat) : zx2 (n + 1) a = zy2 (a % 256) + 256 * zx2 n (a / 256) := by
  have hb : a % 256 < 256 := Nat.mod_lt _ (by decide)
  have h0 := zy1_lt hb
  unfold zx2
  rw [zx1_s]
  generalize hx : zx1 n (a / 256) = X
  have e : (zy1 (a % 256) + 256 * X) / 4 = (zy1 (a % 256) / 4 + 64 * (X % 4)) + 256 * (X / 4) := by omega
  have h1 : (zy1 (a % 256) / 4 + 64 * (X % 4)) &&& 51 = (zy1 (a % 256) / 4) &&& 51 := (by decide +kernel : ∀ u, u < 256 → ∀ e, e < 4 → (u / 4 + 64 * e) &&& 51 = (u / 4) &&& 51) _ h0 _ (Nat.mod_lt _ (by decide))
  rw [show zM3 (n + 1) = 51 + 256 * zM3 n from rfl, zand_split h0 (by decide), e, zand_split (by omega) (by decide), h1]
  unfold zy2
  omega
theorem zy2_ok : ∀ b, b < 256 → (zy2 b % 16 ≤ 4 ∧ zy2 b ≤ 68) := by decide +kernel
theorem zx2_n (n a : Nat) : zx2 n a % 16 ≤ 4 := by
  cases n with
  | zero =>
    have h : zx2 0 a = 0 := by unfold zx2; rw [show zM3 0 = 0 from rfl, Nat.and_zero, Nat.and_zero]
    rw [h]
    decide
  | succ n =>
    rw [zx2_s]
    have := (zy2_ok (a % 256) (Nat.mod_lt _ (by decide))).1
    omega
theorem zx3_s (n a : Nat) : zx3 (n + 1) a = zy3 (a % 256) + 256 * zx3 n (a / 256) := by
  have hb : a % 256 < 256 := Nat.mod_lt _ (by decide)
  have h0 := zy2_ok (a % 256) hb
  have h4 := zx2_n n (a / 256)
  unfold zx3
  rw [zx2_s]
  generalize hx : zx2 n (a / 256) = X at h4 ⊢
  have e : zy2 (a % 256) + 256 * X + (zy2 (a % 256) + 256 * X) / 16 = (zy2 (a % 256) + zy2 (a % 256) / 16 + 16 * (X % 16)) + 256 * (X + X / 16) := by omega
  have h1 : (zy2 (a % 256) + zy2 (a % 256) / 16 + 16 * (X % 16)) &&& 15 = (zy2 (a % 256) + zy2 (a % 256) / 16) &&& 15 := (by decide +kernel : ∀ u, u < 256 → ∀ e, e < 5 → (zy2 u + zy2 u / 16 + 16 * e) &&& 15 = (zy2 u + zy2 u / 16) &&& 15) _ hb _ (by omega)
  rw [show zMF (n + 1) = 15 + 256 * zMF n from rfl, e, zand_split (by omega) (by decide), h1]
  unfold zy3
  rfl
theorem zy3_ok : ∀ b, b < 256 → (zy3 b = zcnt b.testBit 8 ∧ zy3 b ≤ 8) := by decide +kernel
theorem zcnt_8 (a n : Nat) : zcnt a.testBit (8 + n) = zy3 (a % 256) + zcnt (a / 256).testBit n := by
  rw [zcnt_add, (zy3_ok (a % 256) (Nat.mod_lt _ (by decide))).1]
  congr 1
  · refine zcnt_c (fun i hi => ?_)
    rw [show (256 : Nat) = 2 ^ 8 by rfl, Nat.testBit_mod_two_pow]
    simp [hi]
  · refine zcnt_c (fun i hi => ?_)
    rw [show (256 : Nat) = 2 ^ 8 by rfl, Nat.testBit_div_two_pow, Nat.add_comm]
theorem zpop_1 (p0 p1 p2 p3 : Nat) : (p0 + 65536 * (p1 + 65536 * (p2 + 65536 * p3))) + (p1 + 65536 * (p2 + 65536 * p3)) = (p0 + p1) + 65536 * ((p1 + p2) + 65536 * ((p2 + p3) + 65536 * p3)) := by
  generalize h3 : 65536 * p3 = a
  generalize h2 : 65536 * (p2 + a) = b
  have e2 : 65536 * ((p2 + p3) + a) = b + a := by omega
  rw [e2]
  omega
theorem zpop_2 (p q : Nat) (hp : p < 65536) : (p + 65536 * q) / 65536 = q := by omega
theorem zpop_3 (u v q : Nat) (hu : u < 65536) (hv : v < 65536) : (u + 65536 * (v + 65536 * q)) / 4294967296 = q := by
  rw [show (4294967296 : Nat) = 65536 * 65536 by rfl, ← Nat.div_div_eq_div_mul, zpop_2 _ _ hu, zpop_2 _ _ hv]
theorem zpop_4 (u q s t : Nat) : ((u + 65536 * q) + (s + 65536 * t)) % 128 = (u + s) % 128 := by omega
theorem zpop_5 (c0 c1 c2 c3 c4 c5 c6 c7 : Nat) : c0 + 256 * (c1 + 256 * (c2 + 256 * (c3 + 256 * (c4 + 256 * (c5 + 256 * (c6 + 256 * c7)))))) + (c1 + 256 * (c2 + 256 * (c3 + 256 * (c4 + 256 * (c5 + 256 * (c6 + 256 * c7)))))) = ((c0 + c1) + 256 * (c1 + c2)) + 65536 * (((c2 + c3) + 256 * (c3 + c4)) + 65536 * (((c4 + c5) + 256 * (c5 + c6)) + 65536 * ((c6 + c7) + 256 * c7))) := by
  generalize h1 : c6 + 256 * c7 = a
  have e1 : (c6 + c7) + 256 * c7 = a + c7 := by omega
  rw [e1]
  generalize h2 : c4 + 256 * (c5 + 256 * a) = b
  have e2 : ((c4 + c5) + 256 * (c5 + c6)) + 65536 * (a + c7) = b + (c5 + 256 * a) := by omega
  rw [e2]
  generalize h3 : c2 + 256 * (c3 + 256 * b) = d
  have e3 : ((c2 + c3) + 256 * (c3 + c4)) + 65536 * (b + (c5 + 256 * a)) = d + (c3 + 256 * b) := by omega
  rw [e3]
  omega
/-- the sum of all bits, as Long.bitCount makes it -/
def zpop (a : Nat) : Nat := ((zx3 8 a + zx3 8 a / 256) + (zx3 8 a + zx3 8 a / 256) / 65536 + ((zx3 8 a + zx3 8 a / 256) + (zx3 8 a + zx3 8 a / 256) / 65536) / 4294967296) % 128
theorem zpop_eq (a : Nat) : zpop a = zcnt a.testBit 64 := by
  have e3 : ∃ c0 c1 c2 c3 c4 c5 c6 c7 : Nat, (c0 ≤ 8 ∧ c1 ≤ 8 ∧ c2 ≤ 8 ∧ c3 ≤ 8 ∧ c4 ≤ 8 ∧ c5 ≤ 8 ∧ c6 ≤ 8 ∧ c7 ≤ 8) ∧ zx3 8 a = c0 + 256 * (c1 + 256 * (c2 + 256 * (c3 + 256 * (c4 + 256 * (c5 + 256 * (c6 + 256 * c7)))))) ∧ zcnt a.testBit 64 = c0 + (c1 + (c2 + (c3 + (c4 + (c5 + (c6 + c7)))))) := by
    have ok : ∀ b, zy3 (b % 256) ≤ 8 := fun b => (zy3_ok (b % 256) (Nat.mod_lt _ (by decide))).2
    refine ⟨_, _, _, _, _, _, _, _, ⟨ok a, ok (a / 256), ok (a / 256 / 256), ok (a / 256 / 256 / 256), ok (a / 256 / 256 / 256 / 256), ok (a / 256 / 256 / 256 / 256 / 256), ok (a / 256 / 256 / 256 / 256 / 256 / 256), ok (a / 256 / 256 / 256 / 256 / 256 / 256 / 256)⟩, ?_, ?_⟩
    · rw [zx3_s, zx3_s, zx3_s, zx3_s, zx3_s, zx3_s, zx3_s, zx3_s]
      have h : ∀ b, zx3 0 b = 0 := fun b => by unfold zx3; rw [show zMF 0 = 0 from rfl, Nat.and_zero]
      rw [h, Nat.mul_zero, Nat.add_zero]
    · rw [show (64 : Nat) = 8 + (8 + (8 + (8 + (8 + (8 + (8 + (8 + 0))))))) by rfl, zcnt_8, zcnt_8, zcnt_8, zcnt_8, zcnt_8, zcnt_8, zcnt_8, zcnt_8]
      rfl
  obtain ⟨c0, c1, c2, c3, c4, c5, c6, c7, ⟨h0, h1, h2, h3, h4, h5, h6, h7⟩, hx, hs⟩ := e3
  rw [hs]
  unfold zpop
  rw [hx]
  clear hx hs
  rw [show (c0 + 256 * (c1 + 256 * (c2 + 256 * (c3 + 256 * (c4 + 256 * (c5 + 256 * (c6 + 256 * c7))))))) / 256 = c1 + 256 * (c2 + 256 * (c3 + 256 * (c4 + 256 * (c5 + 256 * (c6 + 256 * c7))))) by omega, zpop_5]
  have b0 : (c0 + c1) + 256 * (c1 + c2) ≤ 4112 := by omega
  have b1 : (c2 + c3) + 256 * (c3 + c4) ≤ 4112 := by omega
  have b2 : (c4 + c5) + 256 * (c5 + c6) ≤ 4112 := by omega
  have b3 : (c6 + c7) + 256 * c7 ≤ 4112 := by omega
  have hsum : ((c0 + c1) + 256 * (c1 + c2) + ((c2 + c3) + 256 * (c3 + c4)) + (((c4 + c5) + 256 * (c5 + c6)) + ((c6 + c7) + 256 * c7))) % 128 = c0 + (c1 + (c2 + (c3 + (c4 + (c5 + (c6 + c7)))))) := by omega
  generalize (c0 + c1) + 256 * (c1 + c2) = p0 at b0 hsum ⊢
  generalize (c2 + c3) + 256 * (c3 + c4) = p1 at b1 hsum ⊢
  generalize (c4 + c5) + 256 * (c5 + c6) = p2 at b2 hsum ⊢
  generalize (c6 + c7) + 256 * c7 = p3 at b3 hsum ⊢
  rw [← hsum]
  clear hsum h0 h1 h2 h3 h4 h5 h6 h7
  rw [zpop_2 _ _ (by omega), zpop_1, zpop_3 _ _ _ (by omega) (by omega), zpop_4]

