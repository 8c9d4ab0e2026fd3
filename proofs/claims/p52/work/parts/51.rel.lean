def zFx (A B F : List Nat) (w w' : zW) : Prop := (∀ a, a ∉ A → a ≠ 166 → w'.1 a = w.1 a) ∧ (∀ a, a ∉ B → w'.2.1 a = w.2.1 a) ∧ ∀ i, i ∉ F → w'.1 166 i = w.1 166 i
def okc (K A : List Nat) : Bool := K.all (fun k => !A.contains k)
theorem okc_m {K A : List Nat} (h : okc K A = true) {k : Nat} (hk : k ∈ K) : k ∉ A := by
  unfold okc at h
  simp only [List.all_eq_true, Bool.not_eq_true', ← Bool.not_eq_true, List.contains_iff_mem] at h
  exact h k hk
theorem cRe_f {A B F : List Nat} {w w' : zW} {D : zD} (h : cRe w D) (hF : zFx A B F w w') (k : (okc [131, 132, 133, 134, 139, 140] A && okc [135, 136, 141, 142] B) = true) : cRe w' D := by
  simp only [Bool.and_eq_true] at k
  obtain ⟨h1, h2, h3⟩ := hF
  unfold cRe cStep cOwn cOwn1 cRow
  rw [h1 131 (okc_m k.1 (by simp)) (by decide), h1 132 (okc_m k.1 (by simp)) (by decide), h1 133 (okc_m k.1 (by simp)) (by decide), h1 134 (okc_m k.1 (by simp)) (by decide), h1 139 (okc_m k.1 (by simp)) (by decide), h1 140 (okc_m k.1 (by simp)) (by decide), h2 135 (okc_m k.2 (by simp)), h2 136 (okc_m k.2 (by simp)), h2 141 (okc_m k.2 (by simp)), h2 142 (okc_m k.2 (by simp))]
  exact h
