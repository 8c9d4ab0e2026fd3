theorem cdJ9_max : Cond.code Lib.Math.max.name Lib.Math.max.code 2 (some .int) ∈ zTB := zin (zt1 (List.mem_of_getElem? (i := 56) rfl)) rfl
theorem cdJ9_min : Cond.code Lib.Math.min.name Lib.Math.min.code 2 (some .int) ∈ zTB := zin (zt4 (List.mem_of_getElem? (i := 193) rfl)) rfl
theorem cdJ9_abs : Cond.code Lib.Math.abs.name Lib.Math.abs.code 1 (some .int) ∈ zTB := zin (zt3 (List.mem_of_getElem? (i := 13) rfl)) rfl
theorem smJ9_max_7cf53 : Cond.static yJ9_max_7cf53 ∈ zTB := zin (zt1 (List.mem_of_getElem? (i := 55) (by decide +kernel))) rfl
theorem smJ9_min_7cf53 : Cond.static yJ9_min_7cf53 ∈ zTB := zin (zt4 (List.mem_of_getElem? (i := 192) (by decide +kernel))) rfl
theorem smJ9_abs_0f7a4 : Cond.static yJ9_abs_0f7a4 ∈ zTB := zin (zt3 (List.mem_of_getElem? (i := 12) (by decide +kernel))) rfl
theorem maI : Cond.initialized "java/lang/Math" ∈ zTB := zin (zt1 (List.mem_of_getElem? (i := 4) (by decide +kernel))) rfl
abbrev zCi (G : zG) (M : zM) (args : List Value) (w : zW) (Q : Int32 → zW → Prop) : Prop := zC G M args zN w zN (fun v w1 => ∃ r, v = some (.int r) ∧ Q r w1)
abbrev zCl (G : zG) (M : zM) (args : List Value) (w : zW) (Q : Int64 → zW → Prop) : Prop := zC G M args zN w zN (fun v w1 => ∃ r, v = some (.long r) ∧ Q r w1)
abbrev zCv (G : zG) (M : zM) (args : List Value) (w : zW) (Q : zW → Prop) : Prop := zC G M args zN w zN (fun v w1 => v = none ∧ Q w1)
/-- exactly this answer and this world -/
abbrev zEi (G : zG) (M : zM) (args : List Value) (w : zW) (r : Int32) (w1 : zW) : Prop := zCi G M args w (fun r' w' => r' = r ∧ w' = w1)
abbrev zEl (G : zG) (M : zM) (args : List Value) (w : zW) (r : Int64) (w1 : zW) : Prop := zCl G M args w (fun r' w' => r' = r ∧ w' = w1)
abbrev zEv (G : zG) (M : zM) (args : List Value) (w : zW) (w1 : zW) : Prop := zCv G M args w (fun w' => w' = w1)
section ZV
variable {G : zG} {X : zX} {M M' : zM} {pc : Nat} {lo st : List Value} {w w1 : zW}
theorem zk_V0i (hX : zH G X M) {idx c k : Nat} (d : decode M.2.1 pc = .ok (.invokevirtual idx, 3)) (hy : zCal M' 0) (hm : Cond.methodLink M.1.cls idx M'.1 ∈ zTB) (hv : zVir M' c) (hr : zRoom M M' = true) (hk : k < zN) (hz : zsh k = (0, c, 0)) {r : Int32} (h : zEi G M' [.ref k] w r w1) (hw : (st.map fun v => v.category).sum ≤ 8) (h0 : (M'.2.2.2.2.2.2.1, M'.2.2.2.2.2.2.2) = (0, 0)) (kk : zk0 G X M (pc + 3) lo (.int r :: st) w1) : zk0 G X M pc lo (.ref k :: st) w := by
  have h1 : M'.2.2.2.2.2.2.1 = 0 := congrArg Prod.fst h0
  have h2 : M'.2.2.2.2.2.2.2 = 0 := congrArg Prod.snd h0
  refine zk_callV (As := []) hX d hy hm hv hr hk hz h rfl rfl hw ⟨by omega, by omega⟩ ?_
  rw [h1, h2, Nat.add_zero, Nat.add_zero]
  exact (fun v w9 q => by obtain ⟨r9, rfl, rfl, rfl⟩ := q; exact kk)
theorem zk_S0i (hX : zH G X M) {idx : Nat} (d : decode M.2.1 pc = .ok (.invokestatic idx, 3)) (hy : zCal M' 0) (hm : Cond.methodLink M.1.cls idx M'.1 ∈ zTB) (hv : Cond.static M'.1 ∈ zTB) (hr : zRoom M M' = true) {r : Int32} (h : zEi G M' [] w r w1) (hw : (st.map fun v => v.category).sum ≤ 8) (h0 : (M'.2.2.2.2.2.2.1, M'.2.2.2.2.2.2.2) = (0, 0)) (kk : zk0 G X M (pc + 3) lo (.int r :: st) w1) : zk0 G X M pc lo (st) w := by
  have h1 : M'.2.2.2.2.2.2.1 = 0 := congrArg Prod.fst h0
  have h2 : M'.2.2.2.2.2.2.2 = 0 := congrArg Prod.snd h0
  refine zk_callS (As := []) hX d hy hm hv hr h rfl rfl hw ⟨by omega, by omega⟩ ?_
  rw [h1, h2, Nat.add_zero, Nat.add_zero]
  exact (fun v w9 q => by obtain ⟨r9, rfl, rfl, rfl⟩ := q; exact kk)
theorem zk_V0ip (hX : zH G X M) {idx c k : Nat} (d : decode M.2.1 pc = .ok (.invokevirtual idx, 3)) (hy : zCal M' 0) (hm : Cond.methodLink M.1.cls idx M'.1 ∈ zTB) (hv : zVir M' c) (hr : zRoom M M' = true) (hk : k < zN) (hz : zsh k = (0, c, 0)) {Q : Int32 → zW → Prop} (h : zCi G M' [.ref k] w Q) (hw : (st.map fun v => v.category).sum ≤ 8) (h0 : (M'.2.2.2.2.2.2.1, M'.2.2.2.2.2.2.2) = (0, 0)) (kk : ∀ r w9, Q r w9 → zk0 G X M (pc + 3) lo (.int r :: st) w9) : zk0 G X M pc lo (.ref k :: st) w := by
  have h1 : M'.2.2.2.2.2.2.1 = 0 := congrArg Prod.fst h0
  have h2 : M'.2.2.2.2.2.2.2 = 0 := congrArg Prod.snd h0
  refine zk_callV (As := []) hX d hy hm hv hr hk hz h rfl rfl hw ⟨by omega, by omega⟩ ?_
  rw [h1, h2, Nat.add_zero, Nat.add_zero]
  exact (fun v w9 q => by obtain ⟨r9, rfl, q⟩ := q; exact kk _ _ q)
theorem zk_S0ip (hX : zH G X M) {idx : Nat} (d : decode M.2.1 pc = .ok (.invokestatic idx, 3)) (hy : zCal M' 0) (hm : Cond.methodLink M.1.cls idx M'.1 ∈ zTB) (hv : Cond.static M'.1 ∈ zTB) (hr : zRoom M M' = true) {Q : Int32 → zW → Prop} (h : zCi G M' [] w Q) (hw : (st.map fun v => v.category).sum ≤ 8) (h0 : (M'.2.2.2.2.2.2.1, M'.2.2.2.2.2.2.2) = (0, 0)) (kk : ∀ r w9, Q r w9 → zk0 G X M (pc + 3) lo (.int r :: st) w9) : zk0 G X M pc lo (st) w := by
  have h1 : M'.2.2.2.2.2.2.1 = 0 := congrArg Prod.fst h0
  have h2 : M'.2.2.2.2.2.2.2 = 0 := congrArg Prod.snd h0
  refine zk_callS (As := []) hX d hy hm hv hr h rfl rfl hw ⟨by omega, by omega⟩ ?_
  rw [h1, h2, Nat.add_zero, Nat.add_zero]
  exact (fun v w9 q => by obtain ⟨r9, rfl, q⟩ := q; exact kk _ _ q)
theorem zk_V0l (hX : zH G X M) {idx c k : Nat} (d : decode M.2.1 pc = .ok (.invokevirtual idx, 3)) (hy : zCal M' 0) (hm : Cond.methodLink M.1.cls idx M'.1 ∈ zTB) (hv : zVir M' c) (hr : zRoom M M' = true) (hk : k < zN) (hz : zsh k = (0, c, 0)) {r : Int64} (h : zEl G M' [.ref k] w r w1) (hw : (st.map fun v => v.category).sum ≤ 8) (h0 : (M'.2.2.2.2.2.2.1, M'.2.2.2.2.2.2.2) = (0, 0)) (kk : zk0 G X M (pc + 3) lo (.long r :: st) w1) : zk0 G X M pc lo (.ref k :: st) w := by
  have h1 : M'.2.2.2.2.2.2.1 = 0 := congrArg Prod.fst h0
  have h2 : M'.2.2.2.2.2.2.2 = 0 := congrArg Prod.snd h0
  refine zk_callV (As := []) hX d hy hm hv hr hk hz h rfl rfl hw ⟨by omega, by omega⟩ ?_
  rw [h1, h2, Nat.add_zero, Nat.add_zero]
  exact (fun v w9 q => by obtain ⟨r9, rfl, rfl, rfl⟩ := q; exact kk)
theorem zk_S0l (hX : zH G X M) {idx : Nat} (d : decode M.2.1 pc = .ok (.invokestatic idx, 3)) (hy : zCal M' 0) (hm : Cond.methodLink M.1.cls idx M'.1 ∈ zTB) (hv : Cond.static M'.1 ∈ zTB) (hr : zRoom M M' = true) {r : Int64} (h : zEl G M' [] w r w1) (hw : (st.map fun v => v.category).sum ≤ 8) (h0 : (M'.2.2.2.2.2.2.1, M'.2.2.2.2.2.2.2) = (0, 0)) (kk : zk0 G X M (pc + 3) lo (.long r :: st) w1) : zk0 G X M pc lo (st) w := by
  have h1 : M'.2.2.2.2.2.2.1 = 0 := congrArg Prod.fst h0
  have h2 : M'.2.2.2.2.2.2.2 = 0 := congrArg Prod.snd h0
  refine zk_callS (As := []) hX d hy hm hv hr h rfl rfl hw ⟨by omega, by omega⟩ ?_
  rw [h1, h2, Nat.add_zero, Nat.add_zero]
  exact (fun v w9 q => by obtain ⟨r9, rfl, rfl, rfl⟩ := q; exact kk)
theorem zk_V0lp (hX : zH G X M) {idx c k : Nat} (d : decode M.2.1 pc = .ok (.invokevirtual idx, 3)) (hy : zCal M' 0) (hm : Cond.methodLink M.1.cls idx M'.1 ∈ zTB) (hv : zVir M' c) (hr : zRoom M M' = true) (hk : k < zN) (hz : zsh k = (0, c, 0)) {Q : Int64 → zW → Prop} (h : zCl G M' [.ref k] w Q) (hw : (st.map fun v => v.category).sum ≤ 8) (h0 : (M'.2.2.2.2.2.2.1, M'.2.2.2.2.2.2.2) = (0, 0)) (kk : ∀ r w9, Q r w9 → zk0 G X M (pc + 3) lo (.long r :: st) w9) : zk0 G X M pc lo (.ref k :: st) w := by
  have h1 : M'.2.2.2.2.2.2.1 = 0 := congrArg Prod.fst h0
  have h2 : M'.2.2.2.2.2.2.2 = 0 := congrArg Prod.snd h0
  refine zk_callV (As := []) hX d hy hm hv hr hk hz h rfl rfl hw ⟨by omega, by omega⟩ ?_
  rw [h1, h2, Nat.add_zero, Nat.add_zero]
  exact (fun v w9 q => by obtain ⟨r9, rfl, q⟩ := q; exact kk _ _ q)
theorem zk_S0lp (hX : zH G X M) {idx : Nat} (d : decode M.2.1 pc = .ok (.invokestatic idx, 3)) (hy : zCal M' 0) (hm : Cond.methodLink M.1.cls idx M'.1 ∈ zTB) (hv : Cond.static M'.1 ∈ zTB) (hr : zRoom M M' = true) {Q : Int64 → zW → Prop} (h : zCl G M' [] w Q) (hw : (st.map fun v => v.category).sum ≤ 8) (h0 : (M'.2.2.2.2.2.2.1, M'.2.2.2.2.2.2.2) = (0, 0)) (kk : ∀ r w9, Q r w9 → zk0 G X M (pc + 3) lo (.long r :: st) w9) : zk0 G X M pc lo (st) w := by
  have h1 : M'.2.2.2.2.2.2.1 = 0 := congrArg Prod.fst h0
  have h2 : M'.2.2.2.2.2.2.2 = 0 := congrArg Prod.snd h0
  refine zk_callS (As := []) hX d hy hm hv hr h rfl rfl hw ⟨by omega, by omega⟩ ?_
  rw [h1, h2, Nat.add_zero, Nat.add_zero]
  exact (fun v w9 q => by obtain ⟨r9, rfl, q⟩ := q; exact kk _ _ q)
theorem zk_V0v (hX : zH G X M) {idx c k : Nat} (d : decode M.2.1 pc = .ok (.invokevirtual idx, 3)) (hy : zCal M' 0) (hm : Cond.methodLink M.1.cls idx M'.1 ∈ zTB) (hv : zVir M' c) (hr : zRoom M M' = true) (hk : k < zN) (hz : zsh k = (0, c, 0)) (h : zEv G M' [.ref k] w w1) (hw : (st.map fun v => v.category).sum ≤ 8) (h0 : (M'.2.2.2.2.2.2.1, M'.2.2.2.2.2.2.2) = (0, 0)) (kk : zk0 G X M (pc + 3) lo (st) w1) : zk0 G X M pc lo (.ref k :: st) w := by
  have h1 : M'.2.2.2.2.2.2.1 = 0 := congrArg Prod.fst h0
  have h2 : M'.2.2.2.2.2.2.2 = 0 := congrArg Prod.snd h0
  refine zk_callV (As := []) hX d hy hm hv hr hk hz h rfl rfl hw ⟨by omega, by omega⟩ ?_
  rw [h1, h2, Nat.add_zero, Nat.add_zero]
  exact (fun v w9 q => by obtain ⟨rfl, rfl⟩ := q; exact kk)
theorem zk_S0v (hX : zH G X M) {idx : Nat} (d : decode M.2.1 pc = .ok (.invokestatic idx, 3)) (hy : zCal M' 0) (hm : Cond.methodLink M.1.cls idx M'.1 ∈ zTB) (hv : Cond.static M'.1 ∈ zTB) (hr : zRoom M M' = true) (h : zEv G M' [] w w1) (hw : (st.map fun v => v.category).sum ≤ 8) (h0 : (M'.2.2.2.2.2.2.1, M'.2.2.2.2.2.2.2) = (0, 0)) (kk : zk0 G X M (pc + 3) lo (st) w1) : zk0 G X M pc lo (st) w := by
  have h1 : M'.2.2.2.2.2.2.1 = 0 := congrArg Prod.fst h0
  have h2 : M'.2.2.2.2.2.2.2 = 0 := congrArg Prod.snd h0
  refine zk_callS (As := []) hX d hy hm hv hr h rfl rfl hw ⟨by omega, by omega⟩ ?_
  rw [h1, h2, Nat.add_zero, Nat.add_zero]
  exact (fun v w9 q => by obtain ⟨rfl, rfl⟩ := q; exact kk)
theorem zk_V0vp (hX : zH G X M) {idx c k : Nat} (d : decode M.2.1 pc = .ok (.invokevirtual idx, 3)) (hy : zCal M' 0) (hm : Cond.methodLink M.1.cls idx M'.1 ∈ zTB) (hv : zVir M' c) (hr : zRoom M M' = true) (hk : k < zN) (hz : zsh k = (0, c, 0)) {Q : zW → Prop} (h : zCv G M' [.ref k] w Q) (hw : (st.map fun v => v.category).sum ≤ 8) (h0 : (M'.2.2.2.2.2.2.1, M'.2.2.2.2.2.2.2) = (0, 0)) (kk : ∀ w9, Q w9 → zk0 G X M (pc + 3) lo st w9) : zk0 G X M pc lo (.ref k :: st) w := by
  have h1 : M'.2.2.2.2.2.2.1 = 0 := congrArg Prod.fst h0
  have h2 : M'.2.2.2.2.2.2.2 = 0 := congrArg Prod.snd h0
  refine zk_callV (As := []) hX d hy hm hv hr hk hz h rfl rfl hw ⟨by omega, by omega⟩ ?_
  rw [h1, h2, Nat.add_zero, Nat.add_zero]
  exact (fun v w9 q => by obtain ⟨rfl, q⟩ := q; exact kk _ q)
theorem zk_S0vp (hX : zH G X M) {idx : Nat} (d : decode M.2.1 pc = .ok (.invokestatic idx, 3)) (hy : zCal M' 0) (hm : Cond.methodLink M.1.cls idx M'.1 ∈ zTB) (hv : Cond.static M'.1 ∈ zTB) (hr : zRoom M M' = true) {Q : zW → Prop} (h : zCv G M' [] w Q) (hw : (st.map fun v => v.category).sum ≤ 8) (h0 : (M'.2.2.2.2.2.2.1, M'.2.2.2.2.2.2.2) = (0, 0)) (kk : ∀ w9, Q w9 → zk0 G X M (pc + 3) lo st w9) : zk0 G X M pc lo (st) w := by
  have h1 : M'.2.2.2.2.2.2.1 = 0 := congrArg Prod.fst h0
  have h2 : M'.2.2.2.2.2.2.2 = 0 := congrArg Prod.snd h0
  refine zk_callS (As := []) hX d hy hm hv hr h rfl rfl hw ⟨by omega, by omega⟩ ?_
  rw [h1, h2, Nat.add_zero, Nat.add_zero]
  exact (fun v w9 q => by obtain ⟨rfl, q⟩ := q; exact kk _ q)
theorem zk_V1i (hX : zH G X M) {idx c k : Nat} {a0 : Value} (d : decode M.2.1 pc = .ok (.invokevirtual idx, 3)) (hy : zCal M' 1) (hm : Cond.methodLink M.1.cls idx M'.1 ∈ zTB) (hv : zVir M' c) (hr : zRoom M M' = true) (hk : k < zN) (hz : zsh k = (0, c, 0)) {r : Int32} (h : zEi G M' [.ref k, a0] w r w1) (hw : (st.map fun v => v.category).sum ≤ 8) (h0 : (M'.2.2.2.2.2.2.1, M'.2.2.2.2.2.2.2) = (0, 0)) (kk : zk0 G X M (pc + 3) lo (.int r :: st) w1) : zk0 G X M pc lo (a0 :: .ref k :: st) w := by
  have h1 : M'.2.2.2.2.2.2.1 = 0 := congrArg Prod.fst h0
  have h2 : M'.2.2.2.2.2.2.2 = 0 := congrArg Prod.snd h0
  refine zk_callV (As := [a0]) hX d hy hm hv hr hk hz h rfl rfl hw ⟨by omega, by omega⟩ ?_
  rw [h1, h2, Nat.add_zero, Nat.add_zero]
  exact (fun v w9 q => by obtain ⟨r9, rfl, rfl, rfl⟩ := q; exact kk)
theorem zk_S1i (hX : zH G X M) {idx : Nat} {a0 : Value} (d : decode M.2.1 pc = .ok (.invokestatic idx, 3)) (hy : zCal M' 1) (hm : Cond.methodLink M.1.cls idx M'.1 ∈ zTB) (hv : Cond.static M'.1 ∈ zTB) (hr : zRoom M M' = true) {r : Int32} (h : zEi G M' [a0] w r w1) (hw : (st.map fun v => v.category).sum ≤ 8) (h0 : (M'.2.2.2.2.2.2.1, M'.2.2.2.2.2.2.2) = (0, 0)) (kk : zk0 G X M (pc + 3) lo (.int r :: st) w1) : zk0 G X M pc lo (a0 :: st) w := by
  have h1 : M'.2.2.2.2.2.2.1 = 0 := congrArg Prod.fst h0
  have h2 : M'.2.2.2.2.2.2.2 = 0 := congrArg Prod.snd h0
  refine zk_callS (As := [a0]) hX d hy hm hv hr h rfl rfl hw ⟨by omega, by omega⟩ ?_
  rw [h1, h2, Nat.add_zero, Nat.add_zero]
  exact (fun v w9 q => by obtain ⟨r9, rfl, rfl, rfl⟩ := q; exact kk)
theorem zk_V1ip (hX : zH G X M) {idx c k : Nat} {a0 : Value} (d : decode M.2.1 pc = .ok (.invokevirtual idx, 3)) (hy : zCal M' 1) (hm : Cond.methodLink M.1.cls idx M'.1 ∈ zTB) (hv : zVir M' c) (hr : zRoom M M' = true) (hk : k < zN) (hz : zsh k = (0, c, 0)) {Q : Int32 → zW → Prop} (h : zCi G M' [.ref k, a0] w Q) (hw : (st.map fun v => v.category).sum ≤ 8) (h0 : (M'.2.2.2.2.2.2.1, M'.2.2.2.2.2.2.2) = (0, 0)) (kk : ∀ r w9, Q r w9 → zk0 G X M (pc + 3) lo (.int r :: st) w9) : zk0 G X M pc lo (a0 :: .ref k :: st) w := by
  have h1 : M'.2.2.2.2.2.2.1 = 0 := congrArg Prod.fst h0
  have h2 : M'.2.2.2.2.2.2.2 = 0 := congrArg Prod.snd h0
  refine zk_callV (As := [a0]) hX d hy hm hv hr hk hz h rfl rfl hw ⟨by omega, by omega⟩ ?_
  rw [h1, h2, Nat.add_zero, Nat.add_zero]
  exact (fun v w9 q => by obtain ⟨r9, rfl, q⟩ := q; exact kk _ _ q)
theorem zk_S1ip (hX : zH G X M) {idx : Nat} {a0 : Value} (d : decode M.2.1 pc = .ok (.invokestatic idx, 3)) (hy : zCal M' 1) (hm : Cond.methodLink M.1.cls idx M'.1 ∈ zTB) (hv : Cond.static M'.1 ∈ zTB) (hr : zRoom M M' = true) {Q : Int32 → zW → Prop} (h : zCi G M' [a0] w Q) (hw : (st.map fun v => v.category).sum ≤ 8) (h0 : (M'.2.2.2.2.2.2.1, M'.2.2.2.2.2.2.2) = (0, 0)) (kk : ∀ r w9, Q r w9 → zk0 G X M (pc + 3) lo (.int r :: st) w9) : zk0 G X M pc lo (a0 :: st) w := by
  have h1 : M'.2.2.2.2.2.2.1 = 0 := congrArg Prod.fst h0
  have h2 : M'.2.2.2.2.2.2.2 = 0 := congrArg Prod.snd h0
  refine zk_callS (As := [a0]) hX d hy hm hv hr h rfl rfl hw ⟨by omega, by omega⟩ ?_
  rw [h1, h2, Nat.add_zero, Nat.add_zero]
  exact (fun v w9 q => by obtain ⟨r9, rfl, q⟩ := q; exact kk _ _ q)
theorem zk_V1l (hX : zH G X M) {idx c k : Nat} {a0 : Value} (d : decode M.2.1 pc = .ok (.invokevirtual idx, 3)) (hy : zCal M' 1) (hm : Cond.methodLink M.1.cls idx M'.1 ∈ zTB) (hv : zVir M' c) (hr : zRoom M M' = true) (hk : k < zN) (hz : zsh k = (0, c, 0)) {r : Int64} (h : zEl G M' [.ref k, a0] w r w1) (hw : (st.map fun v => v.category).sum ≤ 8) (h0 : (M'.2.2.2.2.2.2.1, M'.2.2.2.2.2.2.2) = (0, 0)) (kk : zk0 G X M (pc + 3) lo (.long r :: st) w1) : zk0 G X M pc lo (a0 :: .ref k :: st) w := by
  have h1 : M'.2.2.2.2.2.2.1 = 0 := congrArg Prod.fst h0
  have h2 : M'.2.2.2.2.2.2.2 = 0 := congrArg Prod.snd h0
  refine zk_callV (As := [a0]) hX d hy hm hv hr hk hz h rfl rfl hw ⟨by omega, by omega⟩ ?_
  rw [h1, h2, Nat.add_zero, Nat.add_zero]
  exact (fun v w9 q => by obtain ⟨r9, rfl, rfl, rfl⟩ := q; exact kk)
theorem zk_S1l (hX : zH G X M) {idx : Nat} {a0 : Value} (d : decode M.2.1 pc = .ok (.invokestatic idx, 3)) (hy : zCal M' 1) (hm : Cond.methodLink M.1.cls idx M'.1 ∈ zTB) (hv : Cond.static M'.1 ∈ zTB) (hr : zRoom M M' = true) {r : Int64} (h : zEl G M' [a0] w r w1) (hw : (st.map fun v => v.category).sum ≤ 8) (h0 : (M'.2.2.2.2.2.2.1, M'.2.2.2.2.2.2.2) = (0, 0)) (kk : zk0 G X M (pc + 3) lo (.long r :: st) w1) : zk0 G X M pc lo (a0 :: st) w := by
  have h1 : M'.2.2.2.2.2.2.1 = 0 := congrArg Prod.fst h0
  have h2 : M'.2.2.2.2.2.2.2 = 0 := congrArg Prod.snd h0
  refine zk_callS (As := [a0]) hX d hy hm hv hr h rfl rfl hw ⟨by omega, by omega⟩ ?_
  rw [h1, h2, Nat.add_zero, Nat.add_zero]
  exact (fun v w9 q => by obtain ⟨r9, rfl, rfl, rfl⟩ := q; exact kk)
theorem zk_V1lp (hX : zH G X M) {idx c k : Nat} {a0 : Value} (d : decode M.2.1 pc = .ok (.invokevirtual idx, 3)) (hy : zCal M' 1) (hm : Cond.methodLink M.1.cls idx M'.1 ∈ zTB) (hv : zVir M' c) (hr : zRoom M M' = true) (hk : k < zN) (hz : zsh k = (0, c, 0)) {Q : Int64 → zW → Prop} (h : zCl G M' [.ref k, a0] w Q) (hw : (st.map fun v => v.category).sum ≤ 8) (h0 : (M'.2.2.2.2.2.2.1, M'.2.2.2.2.2.2.2) = (0, 0)) (kk : ∀ r w9, Q r w9 → zk0 G X M (pc + 3) lo (.long r :: st) w9) : zk0 G X M pc lo (a0 :: .ref k :: st) w := by
  have h1 : M'.2.2.2.2.2.2.1 = 0 := congrArg Prod.fst h0
  have h2 : M'.2.2.2.2.2.2.2 = 0 := congrArg Prod.snd h0
  refine zk_callV (As := [a0]) hX d hy hm hv hr hk hz h rfl rfl hw ⟨by omega, by omega⟩ ?_
  rw [h1, h2, Nat.add_zero, Nat.add_zero]
  exact (fun v w9 q => by obtain ⟨r9, rfl, q⟩ := q; exact kk _ _ q)
theorem zk_S1lp (hX : zH G X M) {idx : Nat} {a0 : Value} (d : decode M.2.1 pc = .ok (.invokestatic idx, 3)) (hy : zCal M' 1) (hm : Cond.methodLink M.1.cls idx M'.1 ∈ zTB) (hv : Cond.static M'.1 ∈ zTB) (hr : zRoom M M' = true) {Q : Int64 → zW → Prop} (h : zCl G M' [a0] w Q) (hw : (st.map fun v => v.category).sum ≤ 8) (h0 : (M'.2.2.2.2.2.2.1, M'.2.2.2.2.2.2.2) = (0, 0)) (kk : ∀ r w9, Q r w9 → zk0 G X M (pc + 3) lo (.long r :: st) w9) : zk0 G X M pc lo (a0 :: st) w := by
  have h1 : M'.2.2.2.2.2.2.1 = 0 := congrArg Prod.fst h0
  have h2 : M'.2.2.2.2.2.2.2 = 0 := congrArg Prod.snd h0
  refine zk_callS (As := [a0]) hX d hy hm hv hr h rfl rfl hw ⟨by omega, by omega⟩ ?_
  rw [h1, h2, Nat.add_zero, Nat.add_zero]
  exact (fun v w9 q => by obtain ⟨r9, rfl, q⟩ := q; exact kk _ _ q)
theorem zk_V1v (hX : zH G X M) {idx c k : Nat} {a0 : Value} (d : decode M.2.1 pc = .ok (.invokevirtual idx, 3)) (hy : zCal M' 1) (hm : Cond.methodLink M.1.cls idx M'.1 ∈ zTB) (hv : zVir M' c) (hr : zRoom M M' = true) (hk : k < zN) (hz : zsh k = (0, c, 0)) (h : zEv G M' [.ref k, a0] w w1) (hw : (st.map fun v => v.category).sum ≤ 8) (h0 : (M'.2.2.2.2.2.2.1, M'.2.2.2.2.2.2.2) = (0, 0)) (kk : zk0 G X M (pc + 3) lo (st) w1) : zk0 G X M pc lo (a0 :: .ref k :: st) w := by
  have h1 : M'.2.2.2.2.2.2.1 = 0 := congrArg Prod.fst h0
  have h2 : M'.2.2.2.2.2.2.2 = 0 := congrArg Prod.snd h0
  refine zk_callV (As := [a0]) hX d hy hm hv hr hk hz h rfl rfl hw ⟨by omega, by omega⟩ ?_
  rw [h1, h2, Nat.add_zero, Nat.add_zero]
  exact (fun v w9 q => by obtain ⟨rfl, rfl⟩ := q; exact kk)
theorem zk_S1v (hX : zH G X M) {idx : Nat} {a0 : Value} (d : decode M.2.1 pc = .ok (.invokestatic idx, 3)) (hy : zCal M' 1) (hm : Cond.methodLink M.1.cls idx M'.1 ∈ zTB) (hv : Cond.static M'.1 ∈ zTB) (hr : zRoom M M' = true) (h : zEv G M' [a0] w w1) (hw : (st.map fun v => v.category).sum ≤ 8) (h0 : (M'.2.2.2.2.2.2.1, M'.2.2.2.2.2.2.2) = (0, 0)) (kk : zk0 G X M (pc + 3) lo (st) w1) : zk0 G X M pc lo (a0 :: st) w := by
  have h1 : M'.2.2.2.2.2.2.1 = 0 := congrArg Prod.fst h0
  have h2 : M'.2.2.2.2.2.2.2 = 0 := congrArg Prod.snd h0
  refine zk_callS (As := [a0]) hX d hy hm hv hr h rfl rfl hw ⟨by omega, by omega⟩ ?_
  rw [h1, h2, Nat.add_zero, Nat.add_zero]
  exact (fun v w9 q => by obtain ⟨rfl, rfl⟩ := q; exact kk)
theorem zk_V1vp (hX : zH G X M) {idx c k : Nat} {a0 : Value} (d : decode M.2.1 pc = .ok (.invokevirtual idx, 3)) (hy : zCal M' 1) (hm : Cond.methodLink M.1.cls idx M'.1 ∈ zTB) (hv : zVir M' c) (hr : zRoom M M' = true) (hk : k < zN) (hz : zsh k = (0, c, 0)) {Q : zW → Prop} (h : zCv G M' [.ref k, a0] w Q) (hw : (st.map fun v => v.category).sum ≤ 8) (h0 : (M'.2.2.2.2.2.2.1, M'.2.2.2.2.2.2.2) = (0, 0)) (kk : ∀ w9, Q w9 → zk0 G X M (pc + 3) lo st w9) : zk0 G X M pc lo (a0 :: .ref k :: st) w := by
  have h1 : M'.2.2.2.2.2.2.1 = 0 := congrArg Prod.fst h0
  have h2 : M'.2.2.2.2.2.2.2 = 0 := congrArg Prod.snd h0
  refine zk_callV (As := [a0]) hX d hy hm hv hr hk hz h rfl rfl hw ⟨by omega, by omega⟩ ?_
  rw [h1, h2, Nat.add_zero, Nat.add_zero]
  exact (fun v w9 q => by obtain ⟨rfl, q⟩ := q; exact kk _ q)
theorem zk_S1vp (hX : zH G X M) {idx : Nat} {a0 : Value} (d : decode M.2.1 pc = .ok (.invokestatic idx, 3)) (hy : zCal M' 1) (hm : Cond.methodLink M.1.cls idx M'.1 ∈ zTB) (hv : Cond.static M'.1 ∈ zTB) (hr : zRoom M M' = true) {Q : zW → Prop} (h : zCv G M' [a0] w Q) (hw : (st.map fun v => v.category).sum ≤ 8) (h0 : (M'.2.2.2.2.2.2.1, M'.2.2.2.2.2.2.2) = (0, 0)) (kk : ∀ w9, Q w9 → zk0 G X M (pc + 3) lo st w9) : zk0 G X M pc lo (a0 :: st) w := by
  have h1 : M'.2.2.2.2.2.2.1 = 0 := congrArg Prod.fst h0
  have h2 : M'.2.2.2.2.2.2.2 = 0 := congrArg Prod.snd h0
  refine zk_callS (As := [a0]) hX d hy hm hv hr h rfl rfl hw ⟨by omega, by omega⟩ ?_
  rw [h1, h2, Nat.add_zero, Nat.add_zero]
  exact (fun v w9 q => by obtain ⟨rfl, q⟩ := q; exact kk _ q)
theorem zk_V2i (hX : zH G X M) {idx c k : Nat} {a0 a1 : Value} (d : decode M.2.1 pc = .ok (.invokevirtual idx, 3)) (hy : zCal M' 2) (hm : Cond.methodLink M.1.cls idx M'.1 ∈ zTB) (hv : zVir M' c) (hr : zRoom M M' = true) (hk : k < zN) (hz : zsh k = (0, c, 0)) {r : Int32} (h : zEi G M' [.ref k, a0, a1] w r w1) (hw : (st.map fun v => v.category).sum ≤ 8) (h0 : (M'.2.2.2.2.2.2.1, M'.2.2.2.2.2.2.2) = (0, 0)) (kk : zk0 G X M (pc + 3) lo (.int r :: st) w1) : zk0 G X M pc lo (a1 :: a0 :: .ref k :: st) w := by
  have h1 : M'.2.2.2.2.2.2.1 = 0 := congrArg Prod.fst h0
  have h2 : M'.2.2.2.2.2.2.2 = 0 := congrArg Prod.snd h0
  refine zk_callV (As := [a0, a1]) hX d hy hm hv hr hk hz h rfl rfl hw ⟨by omega, by omega⟩ ?_
  rw [h1, h2, Nat.add_zero, Nat.add_zero]
  exact (fun v w9 q => by obtain ⟨r9, rfl, rfl, rfl⟩ := q; exact kk)
theorem zk_S2i (hX : zH G X M) {idx : Nat} {a0 a1 : Value} (d : decode M.2.1 pc = .ok (.invokestatic idx, 3)) (hy : zCal M' 2) (hm : Cond.methodLink M.1.cls idx M'.1 ∈ zTB) (hv : Cond.static M'.1 ∈ zTB) (hr : zRoom M M' = true) {r : Int32} (h : zEi G M' [a0, a1] w r w1) (hw : (st.map fun v => v.category).sum ≤ 8) (h0 : (M'.2.2.2.2.2.2.1, M'.2.2.2.2.2.2.2) = (0, 0)) (kk : zk0 G X M (pc + 3) lo (.int r :: st) w1) : zk0 G X M pc lo (a1 :: a0 :: st) w := by
  have h1 : M'.2.2.2.2.2.2.1 = 0 := congrArg Prod.fst h0
  have h2 : M'.2.2.2.2.2.2.2 = 0 := congrArg Prod.snd h0
  refine zk_callS (As := [a0, a1]) hX d hy hm hv hr h rfl rfl hw ⟨by omega, by omega⟩ ?_
  rw [h1, h2, Nat.add_zero, Nat.add_zero]
  exact (fun v w9 q => by obtain ⟨r9, rfl, rfl, rfl⟩ := q; exact kk)
theorem zk_V2ip (hX : zH G X M) {idx c k : Nat} {a0 a1 : Value} (d : decode M.2.1 pc = .ok (.invokevirtual idx, 3)) (hy : zCal M' 2) (hm : Cond.methodLink M.1.cls idx M'.1 ∈ zTB) (hv : zVir M' c) (hr : zRoom M M' = true) (hk : k < zN) (hz : zsh k = (0, c, 0)) {Q : Int32 → zW → Prop} (h : zCi G M' [.ref k, a0, a1] w Q) (hw : (st.map fun v => v.category).sum ≤ 8) (h0 : (M'.2.2.2.2.2.2.1, M'.2.2.2.2.2.2.2) = (0, 0)) (kk : ∀ r w9, Q r w9 → zk0 G X M (pc + 3) lo (.int r :: st) w9) : zk0 G X M pc lo (a1 :: a0 :: .ref k :: st) w := by
  have h1 : M'.2.2.2.2.2.2.1 = 0 := congrArg Prod.fst h0
  have h2 : M'.2.2.2.2.2.2.2 = 0 := congrArg Prod.snd h0
  refine zk_callV (As := [a0, a1]) hX d hy hm hv hr hk hz h rfl rfl hw ⟨by omega, by omega⟩ ?_
  rw [h1, h2, Nat.add_zero, Nat.add_zero]
  exact (fun v w9 q => by obtain ⟨r9, rfl, q⟩ := q; exact kk _ _ q)
theorem zk_S2ip (hX : zH G X M) {idx : Nat} {a0 a1 : Value} (d : decode M.2.1 pc = .ok (.invokestatic idx, 3)) (hy : zCal M' 2) (hm : Cond.methodLink M.1.cls idx M'.1 ∈ zTB) (hv : Cond.static M'.1 ∈ zTB) (hr : zRoom M M' = true) {Q : Int32 → zW → Prop} (h : zCi G M' [a0, a1] w Q) (hw : (st.map fun v => v.category).sum ≤ 8) (h0 : (M'.2.2.2.2.2.2.1, M'.2.2.2.2.2.2.2) = (0, 0)) (kk : ∀ r w9, Q r w9 → zk0 G X M (pc + 3) lo (.int r :: st) w9) : zk0 G X M pc lo (a1 :: a0 :: st) w := by
  have h1 : M'.2.2.2.2.2.2.1 = 0 := congrArg Prod.fst h0
  have h2 : M'.2.2.2.2.2.2.2 = 0 := congrArg Prod.snd h0
  refine zk_callS (As := [a0, a1]) hX d hy hm hv hr h rfl rfl hw ⟨by omega, by omega⟩ ?_
  rw [h1, h2, Nat.add_zero, Nat.add_zero]
  exact (fun v w9 q => by obtain ⟨r9, rfl, q⟩ := q; exact kk _ _ q)
theorem zk_V2l (hX : zH G X M) {idx c k : Nat} {a0 a1 : Value} (d : decode M.2.1 pc = .ok (.invokevirtual idx, 3)) (hy : zCal M' 2) (hm : Cond.methodLink M.1.cls idx M'.1 ∈ zTB) (hv : zVir M' c) (hr : zRoom M M' = true) (hk : k < zN) (hz : zsh k = (0, c, 0)) {r : Int64} (h : zEl G M' [.ref k, a0, a1] w r w1) (hw : (st.map fun v => v.category).sum ≤ 8) (h0 : (M'.2.2.2.2.2.2.1, M'.2.2.2.2.2.2.2) = (0, 0)) (kk : zk0 G X M (pc + 3) lo (.long r :: st) w1) : zk0 G X M pc lo (a1 :: a0 :: .ref k :: st) w := by
  have h1 : M'.2.2.2.2.2.2.1 = 0 := congrArg Prod.fst h0
  have h2 : M'.2.2.2.2.2.2.2 = 0 := congrArg Prod.snd h0
  refine zk_callV (As := [a0, a1]) hX d hy hm hv hr hk hz h rfl rfl hw ⟨by omega, by omega⟩ ?_
  rw [h1, h2, Nat.add_zero, Nat.add_zero]
  exact (fun v w9 q => by obtain ⟨r9, rfl, rfl, rfl⟩ := q; exact kk)
theorem zk_S2l (hX : zH G X M) {idx : Nat} {a0 a1 : Value} (d : decode M.2.1 pc = .ok (.invokestatic idx, 3)) (hy : zCal M' 2) (hm : Cond.methodLink M.1.cls idx M'.1 ∈ zTB) (hv : Cond.static M'.1 ∈ zTB) (hr : zRoom M M' = true) {r : Int64} (h : zEl G M' [a0, a1] w r w1) (hw : (st.map fun v => v.category).sum ≤ 8) (h0 : (M'.2.2.2.2.2.2.1, M'.2.2.2.2.2.2.2) = (0, 0)) (kk : zk0 G X M (pc + 3) lo (.long r :: st) w1) : zk0 G X M pc lo (a1 :: a0 :: st) w := by
  have h1 : M'.2.2.2.2.2.2.1 = 0 := congrArg Prod.fst h0
  have h2 : M'.2.2.2.2.2.2.2 = 0 := congrArg Prod.snd h0
  refine zk_callS (As := [a0, a1]) hX d hy hm hv hr h rfl rfl hw ⟨by omega, by omega⟩ ?_
  rw [h1, h2, Nat.add_zero, Nat.add_zero]
  exact (fun v w9 q => by obtain ⟨r9, rfl, rfl, rfl⟩ := q; exact kk)
theorem zk_N2l (hX : zH G X M) {idx : Nat} {host : String} {a0 a1 : Value} (d : decode M.2.1 pc = .ok (.invokestatic idx, 3)) (hy : zCal M' 2) (hm : (M.1.cls, idx, M'.1, host) ∈ zNst) (hv : Cond.static M'.1 ∈ zTB) (hr : zRoom M M' = true) {r : Int64} (h : zEl G M' [a0, a1] w r w1) (hw : (st.map fun v => v.category).sum ≤ 8) (h0 : (M'.2.2.2.2.2.2.1, M'.2.2.2.2.2.2.2) = (0, 0)) (kk : zk0 G X M (pc + 3) lo (.long r :: st) w1) : zk0 G X M pc lo (a1 :: a0 :: st) w := by
  have h1 : M'.2.2.2.2.2.2.1 = 0 := congrArg Prod.fst h0
  have h2 : M'.2.2.2.2.2.2.2 = 0 := congrArg Prod.snd h0
  refine zk_callSN (As := [a0, a1]) hX d hy hm hv hr h rfl rfl hw ⟨by omega, by omega⟩ ?_
  rw [h1, h2, Nat.add_zero, Nat.add_zero]
  exact (fun v w9 q => by obtain ⟨r9, rfl, rfl, rfl⟩ := q; exact kk)
theorem zk_V2lp (hX : zH G X M) {idx c k : Nat} {a0 a1 : Value} (d : decode M.2.1 pc = .ok (.invokevirtual idx, 3)) (hy : zCal M' 2) (hm : Cond.methodLink M.1.cls idx M'.1 ∈ zTB) (hv : zVir M' c) (hr : zRoom M M' = true) (hk : k < zN) (hz : zsh k = (0, c, 0)) {Q : Int64 → zW → Prop} (h : zCl G M' [.ref k, a0, a1] w Q) (hw : (st.map fun v => v.category).sum ≤ 8) (h0 : (M'.2.2.2.2.2.2.1, M'.2.2.2.2.2.2.2) = (0, 0)) (kk : ∀ r w9, Q r w9 → zk0 G X M (pc + 3) lo (.long r :: st) w9) : zk0 G X M pc lo (a1 :: a0 :: .ref k :: st) w := by
  have h1 : M'.2.2.2.2.2.2.1 = 0 := congrArg Prod.fst h0
  have h2 : M'.2.2.2.2.2.2.2 = 0 := congrArg Prod.snd h0
  refine zk_callV (As := [a0, a1]) hX d hy hm hv hr hk hz h rfl rfl hw ⟨by omega, by omega⟩ ?_
  rw [h1, h2, Nat.add_zero, Nat.add_zero]
  exact (fun v w9 q => by obtain ⟨r9, rfl, q⟩ := q; exact kk _ _ q)
theorem zk_S2lp (hX : zH G X M) {idx : Nat} {a0 a1 : Value} (d : decode M.2.1 pc = .ok (.invokestatic idx, 3)) (hy : zCal M' 2) (hm : Cond.methodLink M.1.cls idx M'.1 ∈ zTB) (hv : Cond.static M'.1 ∈ zTB) (hr : zRoom M M' = true) {Q : Int64 → zW → Prop} (h : zCl G M' [a0, a1] w Q) (hw : (st.map fun v => v.category).sum ≤ 8) (h0 : (M'.2.2.2.2.2.2.1, M'.2.2.2.2.2.2.2) = (0, 0)) (kk : ∀ r w9, Q r w9 → zk0 G X M (pc + 3) lo (.long r :: st) w9) : zk0 G X M pc lo (a1 :: a0 :: st) w := by
  have h1 : M'.2.2.2.2.2.2.1 = 0 := congrArg Prod.fst h0
  have h2 : M'.2.2.2.2.2.2.2 = 0 := congrArg Prod.snd h0
  refine zk_callS (As := [a0, a1]) hX d hy hm hv hr h rfl rfl hw ⟨by omega, by omega⟩ ?_
  rw [h1, h2, Nat.add_zero, Nat.add_zero]
  exact (fun v w9 q => by obtain ⟨r9, rfl, q⟩ := q; exact kk _ _ q)
theorem zk_N2lp (hX : zH G X M) {idx : Nat} {host : String} {a0 a1 : Value} (d : decode M.2.1 pc = .ok (.invokestatic idx, 3)) (hy : zCal M' 2) (hm : (M.1.cls, idx, M'.1, host) ∈ zNst) (hv : Cond.static M'.1 ∈ zTB) (hr : zRoom M M' = true) {Q : Int64 → zW → Prop} (h : zCl G M' [a0, a1] w Q) (hw : (st.map fun v => v.category).sum ≤ 8) (h0 : (M'.2.2.2.2.2.2.1, M'.2.2.2.2.2.2.2) = (0, 0)) (kk : ∀ r w9, Q r w9 → zk0 G X M (pc + 3) lo (.long r :: st) w9) : zk0 G X M pc lo (a1 :: a0 :: st) w := by
  have h1 : M'.2.2.2.2.2.2.1 = 0 := congrArg Prod.fst h0
  have h2 : M'.2.2.2.2.2.2.2 = 0 := congrArg Prod.snd h0
  refine zk_callSN (As := [a0, a1]) hX d hy hm hv hr h rfl rfl hw ⟨by omega, by omega⟩ ?_
  rw [h1, h2, Nat.add_zero, Nat.add_zero]
  exact (fun v w9 q => by obtain ⟨r9, rfl, q⟩ := q; exact kk _ _ q)
theorem zk_V2v (hX : zH G X M) {idx c k : Nat} {a0 a1 : Value} (d : decode M.2.1 pc = .ok (.invokevirtual idx, 3)) (hy : zCal M' 2) (hm : Cond.methodLink M.1.cls idx M'.1 ∈ zTB) (hv : zVir M' c) (hr : zRoom M M' = true) (hk : k < zN) (hz : zsh k = (0, c, 0)) (h : zEv G M' [.ref k, a0, a1] w w1) (hw : (st.map fun v => v.category).sum ≤ 8) (h0 : (M'.2.2.2.2.2.2.1, M'.2.2.2.2.2.2.2) = (0, 0)) (kk : zk0 G X M (pc + 3) lo (st) w1) : zk0 G X M pc lo (a1 :: a0 :: .ref k :: st) w := by
  have h1 : M'.2.2.2.2.2.2.1 = 0 := congrArg Prod.fst h0
  have h2 : M'.2.2.2.2.2.2.2 = 0 := congrArg Prod.snd h0
  refine zk_callV (As := [a0, a1]) hX d hy hm hv hr hk hz h rfl rfl hw ⟨by omega, by omega⟩ ?_
  rw [h1, h2, Nat.add_zero, Nat.add_zero]
  exact (fun v w9 q => by obtain ⟨rfl, rfl⟩ := q; exact kk)
theorem zk_S2v (hX : zH G X M) {idx : Nat} {a0 a1 : Value} (d : decode M.2.1 pc = .ok (.invokestatic idx, 3)) (hy : zCal M' 2) (hm : Cond.methodLink M.1.cls idx M'.1 ∈ zTB) (hv : Cond.static M'.1 ∈ zTB) (hr : zRoom M M' = true) (h : zEv G M' [a0, a1] w w1) (hw : (st.map fun v => v.category).sum ≤ 8) (h0 : (M'.2.2.2.2.2.2.1, M'.2.2.2.2.2.2.2) = (0, 0)) (kk : zk0 G X M (pc + 3) lo (st) w1) : zk0 G X M pc lo (a1 :: a0 :: st) w := by
  have h1 : M'.2.2.2.2.2.2.1 = 0 := congrArg Prod.fst h0
  have h2 : M'.2.2.2.2.2.2.2 = 0 := congrArg Prod.snd h0
  refine zk_callS (As := [a0, a1]) hX d hy hm hv hr h rfl rfl hw ⟨by omega, by omega⟩ ?_
  rw [h1, h2, Nat.add_zero, Nat.add_zero]
  exact (fun v w9 q => by obtain ⟨rfl, rfl⟩ := q; exact kk)
theorem zk_V2vp (hX : zH G X M) {idx c k : Nat} {a0 a1 : Value} (d : decode M.2.1 pc = .ok (.invokevirtual idx, 3)) (hy : zCal M' 2) (hm : Cond.methodLink M.1.cls idx M'.1 ∈ zTB) (hv : zVir M' c) (hr : zRoom M M' = true) (hk : k < zN) (hz : zsh k = (0, c, 0)) {Q : zW → Prop} (h : zCv G M' [.ref k, a0, a1] w Q) (hw : (st.map fun v => v.category).sum ≤ 8) (h0 : (M'.2.2.2.2.2.2.1, M'.2.2.2.2.2.2.2) = (0, 0)) (kk : ∀ w9, Q w9 → zk0 G X M (pc + 3) lo st w9) : zk0 G X M pc lo (a1 :: a0 :: .ref k :: st) w := by
  have h1 : M'.2.2.2.2.2.2.1 = 0 := congrArg Prod.fst h0
  have h2 : M'.2.2.2.2.2.2.2 = 0 := congrArg Prod.snd h0
  refine zk_callV (As := [a0, a1]) hX d hy hm hv hr hk hz h rfl rfl hw ⟨by omega, by omega⟩ ?_
  rw [h1, h2, Nat.add_zero, Nat.add_zero]
  exact (fun v w9 q => by obtain ⟨rfl, q⟩ := q; exact kk _ q)
theorem zk_S2vp (hX : zH G X M) {idx : Nat} {a0 a1 : Value} (d : decode M.2.1 pc = .ok (.invokestatic idx, 3)) (hy : zCal M' 2) (hm : Cond.methodLink M.1.cls idx M'.1 ∈ zTB) (hv : Cond.static M'.1 ∈ zTB) (hr : zRoom M M' = true) {Q : zW → Prop} (h : zCv G M' [a0, a1] w Q) (hw : (st.map fun v => v.category).sum ≤ 8) (h0 : (M'.2.2.2.2.2.2.1, M'.2.2.2.2.2.2.2) = (0, 0)) (kk : ∀ w9, Q w9 → zk0 G X M (pc + 3) lo st w9) : zk0 G X M pc lo (a1 :: a0 :: st) w := by
  have h1 : M'.2.2.2.2.2.2.1 = 0 := congrArg Prod.fst h0
  have h2 : M'.2.2.2.2.2.2.2 = 0 := congrArg Prod.snd h0
  refine zk_callS (As := [a0, a1]) hX d hy hm hv hr h rfl rfl hw ⟨by omega, by omega⟩ ?_
  rw [h1, h2, Nat.add_zero, Nat.add_zero]
  exact (fun v w9 q => by obtain ⟨rfl, q⟩ := q; exact kk _ q)
theorem zk_V3i (hX : zH G X M) {idx c k : Nat} {a0 a1 a2 : Value} (d : decode M.2.1 pc = .ok (.invokevirtual idx, 3)) (hy : zCal M' 3) (hm : Cond.methodLink M.1.cls idx M'.1 ∈ zTB) (hv : zVir M' c) (hr : zRoom M M' = true) (hk : k < zN) (hz : zsh k = (0, c, 0)) {r : Int32} (h : zEi G M' [.ref k, a0, a1, a2] w r w1) (hw : (st.map fun v => v.category).sum ≤ 8) (h0 : (M'.2.2.2.2.2.2.1, M'.2.2.2.2.2.2.2) = (0, 0)) (kk : zk0 G X M (pc + 3) lo (.int r :: st) w1) : zk0 G X M pc lo (a2 :: a1 :: a0 :: .ref k :: st) w := by
  have h1 : M'.2.2.2.2.2.2.1 = 0 := congrArg Prod.fst h0
  have h2 : M'.2.2.2.2.2.2.2 = 0 := congrArg Prod.snd h0
  refine zk_callV (As := [a0, a1, a2]) hX d hy hm hv hr hk hz h rfl rfl hw ⟨by omega, by omega⟩ ?_
  rw [h1, h2, Nat.add_zero, Nat.add_zero]
  exact (fun v w9 q => by obtain ⟨r9, rfl, rfl, rfl⟩ := q; exact kk)
theorem zk_S3i (hX : zH G X M) {idx : Nat} {a0 a1 a2 : Value} (d : decode M.2.1 pc = .ok (.invokestatic idx, 3)) (hy : zCal M' 3) (hm : Cond.methodLink M.1.cls idx M'.1 ∈ zTB) (hv : Cond.static M'.1 ∈ zTB) (hr : zRoom M M' = true) {r : Int32} (h : zEi G M' [a0, a1, a2] w r w1) (hw : (st.map fun v => v.category).sum ≤ 8) (h0 : (M'.2.2.2.2.2.2.1, M'.2.2.2.2.2.2.2) = (0, 0)) (kk : zk0 G X M (pc + 3) lo (.int r :: st) w1) : zk0 G X M pc lo (a2 :: a1 :: a0 :: st) w := by
  have h1 : M'.2.2.2.2.2.2.1 = 0 := congrArg Prod.fst h0
  have h2 : M'.2.2.2.2.2.2.2 = 0 := congrArg Prod.snd h0
  refine zk_callS (As := [a0, a1, a2]) hX d hy hm hv hr h rfl rfl hw ⟨by omega, by omega⟩ ?_
  rw [h1, h2, Nat.add_zero, Nat.add_zero]
  exact (fun v w9 q => by obtain ⟨r9, rfl, rfl, rfl⟩ := q; exact kk)
theorem zk_V3ip (hX : zH G X M) {idx c k : Nat} {a0 a1 a2 : Value} (d : decode M.2.1 pc = .ok (.invokevirtual idx, 3)) (hy : zCal M' 3) (hm : Cond.methodLink M.1.cls idx M'.1 ∈ zTB) (hv : zVir M' c) (hr : zRoom M M' = true) (hk : k < zN) (hz : zsh k = (0, c, 0)) {Q : Int32 → zW → Prop} (h : zCi G M' [.ref k, a0, a1, a2] w Q) (hw : (st.map fun v => v.category).sum ≤ 8) (h0 : (M'.2.2.2.2.2.2.1, M'.2.2.2.2.2.2.2) = (0, 0)) (kk : ∀ r w9, Q r w9 → zk0 G X M (pc + 3) lo (.int r :: st) w9) : zk0 G X M pc lo (a2 :: a1 :: a0 :: .ref k :: st) w := by
  have h1 : M'.2.2.2.2.2.2.1 = 0 := congrArg Prod.fst h0
  have h2 : M'.2.2.2.2.2.2.2 = 0 := congrArg Prod.snd h0
  refine zk_callV (As := [a0, a1, a2]) hX d hy hm hv hr hk hz h rfl rfl hw ⟨by omega, by omega⟩ ?_
  rw [h1, h2, Nat.add_zero, Nat.add_zero]
  exact (fun v w9 q => by obtain ⟨r9, rfl, q⟩ := q; exact kk _ _ q)
theorem zk_S3ip (hX : zH G X M) {idx : Nat} {a0 a1 a2 : Value} (d : decode M.2.1 pc = .ok (.invokestatic idx, 3)) (hy : zCal M' 3) (hm : Cond.methodLink M.1.cls idx M'.1 ∈ zTB) (hv : Cond.static M'.1 ∈ zTB) (hr : zRoom M M' = true) {Q : Int32 → zW → Prop} (h : zCi G M' [a0, a1, a2] w Q) (hw : (st.map fun v => v.category).sum ≤ 8) (h0 : (M'.2.2.2.2.2.2.1, M'.2.2.2.2.2.2.2) = (0, 0)) (kk : ∀ r w9, Q r w9 → zk0 G X M (pc + 3) lo (.int r :: st) w9) : zk0 G X M pc lo (a2 :: a1 :: a0 :: st) w := by
  have h1 : M'.2.2.2.2.2.2.1 = 0 := congrArg Prod.fst h0
  have h2 : M'.2.2.2.2.2.2.2 = 0 := congrArg Prod.snd h0
  refine zk_callS (As := [a0, a1, a2]) hX d hy hm hv hr h rfl rfl hw ⟨by omega, by omega⟩ ?_
  rw [h1, h2, Nat.add_zero, Nat.add_zero]
  exact (fun v w9 q => by obtain ⟨r9, rfl, q⟩ := q; exact kk _ _ q)
theorem zk_V3l (hX : zH G X M) {idx c k : Nat} {a0 a1 a2 : Value} (d : decode M.2.1 pc = .ok (.invokevirtual idx, 3)) (hy : zCal M' 3) (hm : Cond.methodLink M.1.cls idx M'.1 ∈ zTB) (hv : zVir M' c) (hr : zRoom M M' = true) (hk : k < zN) (hz : zsh k = (0, c, 0)) {r : Int64} (h : zEl G M' [.ref k, a0, a1, a2] w r w1) (hw : (st.map fun v => v.category).sum ≤ 8) (h0 : (M'.2.2.2.2.2.2.1, M'.2.2.2.2.2.2.2) = (0, 0)) (kk : zk0 G X M (pc + 3) lo (.long r :: st) w1) : zk0 G X M pc lo (a2 :: a1 :: a0 :: .ref k :: st) w := by
  have h1 : M'.2.2.2.2.2.2.1 = 0 := congrArg Prod.fst h0
  have h2 : M'.2.2.2.2.2.2.2 = 0 := congrArg Prod.snd h0
  refine zk_callV (As := [a0, a1, a2]) hX d hy hm hv hr hk hz h rfl rfl hw ⟨by omega, by omega⟩ ?_
  rw [h1, h2, Nat.add_zero, Nat.add_zero]
  exact (fun v w9 q => by obtain ⟨r9, rfl, rfl, rfl⟩ := q; exact kk)
theorem zk_S3l (hX : zH G X M) {idx : Nat} {a0 a1 a2 : Value} (d : decode M.2.1 pc = .ok (.invokestatic idx, 3)) (hy : zCal M' 3) (hm : Cond.methodLink M.1.cls idx M'.1 ∈ zTB) (hv : Cond.static M'.1 ∈ zTB) (hr : zRoom M M' = true) {r : Int64} (h : zEl G M' [a0, a1, a2] w r w1) (hw : (st.map fun v => v.category).sum ≤ 8) (h0 : (M'.2.2.2.2.2.2.1, M'.2.2.2.2.2.2.2) = (0, 0)) (kk : zk0 G X M (pc + 3) lo (.long r :: st) w1) : zk0 G X M pc lo (a2 :: a1 :: a0 :: st) w := by
  have h1 : M'.2.2.2.2.2.2.1 = 0 := congrArg Prod.fst h0
  have h2 : M'.2.2.2.2.2.2.2 = 0 := congrArg Prod.snd h0
  refine zk_callS (As := [a0, a1, a2]) hX d hy hm hv hr h rfl rfl hw ⟨by omega, by omega⟩ ?_
  rw [h1, h2, Nat.add_zero, Nat.add_zero]
  exact (fun v w9 q => by obtain ⟨r9, rfl, rfl, rfl⟩ := q; exact kk)
theorem zk_V3lp (hX : zH G X M) {idx c k : Nat} {a0 a1 a2 : Value} (d : decode M.2.1 pc = .ok (.invokevirtual idx, 3)) (hy : zCal M' 3) (hm : Cond.methodLink M.1.cls idx M'.1 ∈ zTB) (hv : zVir M' c) (hr : zRoom M M' = true) (hk : k < zN) (hz : zsh k = (0, c, 0)) {Q : Int64 → zW → Prop} (h : zCl G M' [.ref k, a0, a1, a2] w Q) (hw : (st.map fun v => v.category).sum ≤ 8) (h0 : (M'.2.2.2.2.2.2.1, M'.2.2.2.2.2.2.2) = (0, 0)) (kk : ∀ r w9, Q r w9 → zk0 G X M (pc + 3) lo (.long r :: st) w9) : zk0 G X M pc lo (a2 :: a1 :: a0 :: .ref k :: st) w := by
  have h1 : M'.2.2.2.2.2.2.1 = 0 := congrArg Prod.fst h0
  have h2 : M'.2.2.2.2.2.2.2 = 0 := congrArg Prod.snd h0
  refine zk_callV (As := [a0, a1, a2]) hX d hy hm hv hr hk hz h rfl rfl hw ⟨by omega, by omega⟩ ?_
  rw [h1, h2, Nat.add_zero, Nat.add_zero]
  exact (fun v w9 q => by obtain ⟨r9, rfl, q⟩ := q; exact kk _ _ q)
theorem zk_S3lp (hX : zH G X M) {idx : Nat} {a0 a1 a2 : Value} (d : decode M.2.1 pc = .ok (.invokestatic idx, 3)) (hy : zCal M' 3) (hm : Cond.methodLink M.1.cls idx M'.1 ∈ zTB) (hv : Cond.static M'.1 ∈ zTB) (hr : zRoom M M' = true) {Q : Int64 → zW → Prop} (h : zCl G M' [a0, a1, a2] w Q) (hw : (st.map fun v => v.category).sum ≤ 8) (h0 : (M'.2.2.2.2.2.2.1, M'.2.2.2.2.2.2.2) = (0, 0)) (kk : ∀ r w9, Q r w9 → zk0 G X M (pc + 3) lo (.long r :: st) w9) : zk0 G X M pc lo (a2 :: a1 :: a0 :: st) w := by
  have h1 : M'.2.2.2.2.2.2.1 = 0 := congrArg Prod.fst h0
  have h2 : M'.2.2.2.2.2.2.2 = 0 := congrArg Prod.snd h0
  refine zk_callS (As := [a0, a1, a2]) hX d hy hm hv hr h rfl rfl hw ⟨by omega, by omega⟩ ?_
  rw [h1, h2, Nat.add_zero, Nat.add_zero]
  exact (fun v w9 q => by obtain ⟨r9, rfl, q⟩ := q; exact kk _ _ q)
theorem zk_V3v (hX : zH G X M) {idx c k : Nat} {a0 a1 a2 : Value} (d : decode M.2.1 pc = .ok (.invokevirtual idx, 3)) (hy : zCal M' 3) (hm : Cond.methodLink M.1.cls idx M'.1 ∈ zTB) (hv : zVir M' c) (hr : zRoom M M' = true) (hk : k < zN) (hz : zsh k = (0, c, 0)) (h : zEv G M' [.ref k, a0, a1, a2] w w1) (hw : (st.map fun v => v.category).sum ≤ 8) (h0 : (M'.2.2.2.2.2.2.1, M'.2.2.2.2.2.2.2) = (0, 0)) (kk : zk0 G X M (pc + 3) lo (st) w1) : zk0 G X M pc lo (a2 :: a1 :: a0 :: .ref k :: st) w := by
  have h1 : M'.2.2.2.2.2.2.1 = 0 := congrArg Prod.fst h0
  have h2 : M'.2.2.2.2.2.2.2 = 0 := congrArg Prod.snd h0
  refine zk_callV (As := [a0, a1, a2]) hX d hy hm hv hr hk hz h rfl rfl hw ⟨by omega, by omega⟩ ?_
  rw [h1, h2, Nat.add_zero, Nat.add_zero]
  exact (fun v w9 q => by obtain ⟨rfl, rfl⟩ := q; exact kk)
theorem zk_S3v (hX : zH G X M) {idx : Nat} {a0 a1 a2 : Value} (d : decode M.2.1 pc = .ok (.invokestatic idx, 3)) (hy : zCal M' 3) (hm : Cond.methodLink M.1.cls idx M'.1 ∈ zTB) (hv : Cond.static M'.1 ∈ zTB) (hr : zRoom M M' = true) (h : zEv G M' [a0, a1, a2] w w1) (hw : (st.map fun v => v.category).sum ≤ 8) (h0 : (M'.2.2.2.2.2.2.1, M'.2.2.2.2.2.2.2) = (0, 0)) (kk : zk0 G X M (pc + 3) lo (st) w1) : zk0 G X M pc lo (a2 :: a1 :: a0 :: st) w := by
  have h1 : M'.2.2.2.2.2.2.1 = 0 := congrArg Prod.fst h0
  have h2 : M'.2.2.2.2.2.2.2 = 0 := congrArg Prod.snd h0
  refine zk_callS (As := [a0, a1, a2]) hX d hy hm hv hr h rfl rfl hw ⟨by omega, by omega⟩ ?_
  rw [h1, h2, Nat.add_zero, Nat.add_zero]
  exact (fun v w9 q => by obtain ⟨rfl, rfl⟩ := q; exact kk)
theorem zk_V3vp (hX : zH G X M) {idx c k : Nat} {a0 a1 a2 : Value} (d : decode M.2.1 pc = .ok (.invokevirtual idx, 3)) (hy : zCal M' 3) (hm : Cond.methodLink M.1.cls idx M'.1 ∈ zTB) (hv : zVir M' c) (hr : zRoom M M' = true) (hk : k < zN) (hz : zsh k = (0, c, 0)) {Q : zW → Prop} (h : zCv G M' [.ref k, a0, a1, a2] w Q) (hw : (st.map fun v => v.category).sum ≤ 8) (h0 : (M'.2.2.2.2.2.2.1, M'.2.2.2.2.2.2.2) = (0, 0)) (kk : ∀ w9, Q w9 → zk0 G X M (pc + 3) lo st w9) : zk0 G X M pc lo (a2 :: a1 :: a0 :: .ref k :: st) w := by
  have h1 : M'.2.2.2.2.2.2.1 = 0 := congrArg Prod.fst h0
  have h2 : M'.2.2.2.2.2.2.2 = 0 := congrArg Prod.snd h0
  refine zk_callV (As := [a0, a1, a2]) hX d hy hm hv hr hk hz h rfl rfl hw ⟨by omega, by omega⟩ ?_
  rw [h1, h2, Nat.add_zero, Nat.add_zero]
  exact (fun v w9 q => by obtain ⟨rfl, q⟩ := q; exact kk _ q)
theorem zk_S3vp (hX : zH G X M) {idx : Nat} {a0 a1 a2 : Value} (d : decode M.2.1 pc = .ok (.invokestatic idx, 3)) (hy : zCal M' 3) (hm : Cond.methodLink M.1.cls idx M'.1 ∈ zTB) (hv : Cond.static M'.1 ∈ zTB) (hr : zRoom M M' = true) {Q : zW → Prop} (h : zCv G M' [a0, a1, a2] w Q) (hw : (st.map fun v => v.category).sum ≤ 8) (h0 : (M'.2.2.2.2.2.2.1, M'.2.2.2.2.2.2.2) = (0, 0)) (kk : ∀ w9, Q w9 → zk0 G X M (pc + 3) lo st w9) : zk0 G X M pc lo (a2 :: a1 :: a0 :: st) w := by
  have h1 : M'.2.2.2.2.2.2.1 = 0 := congrArg Prod.fst h0
  have h2 : M'.2.2.2.2.2.2.2 = 0 := congrArg Prod.snd h0
  refine zk_callS (As := [a0, a1, a2]) hX d hy hm hv hr h rfl rfl hw ⟨by omega, by omega⟩ ?_
  rw [h1, h2, Nat.add_zero, Nat.add_zero]
  exact (fun v w9 q => by obtain ⟨rfl, q⟩ := q; exact kk _ q)
theorem zk_V4i (hX : zH G X M) {idx c k : Nat} {a0 a1 a2 a3 : Value} (d : decode M.2.1 pc = .ok (.invokevirtual idx, 3)) (hy : zCal M' 4) (hm : Cond.methodLink M.1.cls idx M'.1 ∈ zTB) (hv : zVir M' c) (hr : zRoom M M' = true) (hk : k < zN) (hz : zsh k = (0, c, 0)) {r : Int32} (h : zEi G M' [.ref k, a0, a1, a2, a3] w r w1) (hw : (st.map fun v => v.category).sum ≤ 8) (h0 : (M'.2.2.2.2.2.2.1, M'.2.2.2.2.2.2.2) = (0, 0)) (kk : zk0 G X M (pc + 3) lo (.int r :: st) w1) : zk0 G X M pc lo (a3 :: a2 :: a1 :: a0 :: .ref k :: st) w := by
  have h1 : M'.2.2.2.2.2.2.1 = 0 := congrArg Prod.fst h0
  have h2 : M'.2.2.2.2.2.2.2 = 0 := congrArg Prod.snd h0
  refine zk_callV (As := [a0, a1, a2, a3]) hX d hy hm hv hr hk hz h rfl rfl hw ⟨by omega, by omega⟩ ?_
  rw [h1, h2, Nat.add_zero, Nat.add_zero]
  exact (fun v w9 q => by obtain ⟨r9, rfl, rfl, rfl⟩ := q; exact kk)
theorem zk_S4i (hX : zH G X M) {idx : Nat} {a0 a1 a2 a3 : Value} (d : decode M.2.1 pc = .ok (.invokestatic idx, 3)) (hy : zCal M' 4) (hm : Cond.methodLink M.1.cls idx M'.1 ∈ zTB) (hv : Cond.static M'.1 ∈ zTB) (hr : zRoom M M' = true) {r : Int32} (h : zEi G M' [a0, a1, a2, a3] w r w1) (hw : (st.map fun v => v.category).sum ≤ 8) (h0 : (M'.2.2.2.2.2.2.1, M'.2.2.2.2.2.2.2) = (0, 0)) (kk : zk0 G X M (pc + 3) lo (.int r :: st) w1) : zk0 G X M pc lo (a3 :: a2 :: a1 :: a0 :: st) w := by
  have h1 : M'.2.2.2.2.2.2.1 = 0 := congrArg Prod.fst h0
  have h2 : M'.2.2.2.2.2.2.2 = 0 := congrArg Prod.snd h0
  refine zk_callS (As := [a0, a1, a2, a3]) hX d hy hm hv hr h rfl rfl hw ⟨by omega, by omega⟩ ?_
  rw [h1, h2, Nat.add_zero, Nat.add_zero]
  exact (fun v w9 q => by obtain ⟨r9, rfl, rfl, rfl⟩ := q; exact kk)
theorem zk_V4ip (hX : zH G X M) {idx c k : Nat} {a0 a1 a2 a3 : Value} (d : decode M.2.1 pc = .ok (.invokevirtual idx, 3)) (hy : zCal M' 4) (hm : Cond.methodLink M.1.cls idx M'.1 ∈ zTB) (hv : zVir M' c) (hr : zRoom M M' = true) (hk : k < zN) (hz : zsh k = (0, c, 0)) {Q : Int32 → zW → Prop} (h : zCi G M' [.ref k, a0, a1, a2, a3] w Q) (hw : (st.map fun v => v.category).sum ≤ 8) (h0 : (M'.2.2.2.2.2.2.1, M'.2.2.2.2.2.2.2) = (0, 0)) (kk : ∀ r w9, Q r w9 → zk0 G X M (pc + 3) lo (.int r :: st) w9) : zk0 G X M pc lo (a3 :: a2 :: a1 :: a0 :: .ref k :: st) w := by
  have h1 : M'.2.2.2.2.2.2.1 = 0 := congrArg Prod.fst h0
  have h2 : M'.2.2.2.2.2.2.2 = 0 := congrArg Prod.snd h0
  refine zk_callV (As := [a0, a1, a2, a3]) hX d hy hm hv hr hk hz h rfl rfl hw ⟨by omega, by omega⟩ ?_
  rw [h1, h2, Nat.add_zero, Nat.add_zero]
  exact (fun v w9 q => by obtain ⟨r9, rfl, q⟩ := q; exact kk _ _ q)
theorem zk_S4ip (hX : zH G X M) {idx : Nat} {a0 a1 a2 a3 : Value} (d : decode M.2.1 pc = .ok (.invokestatic idx, 3)) (hy : zCal M' 4) (hm : Cond.methodLink M.1.cls idx M'.1 ∈ zTB) (hv : Cond.static M'.1 ∈ zTB) (hr : zRoom M M' = true) {Q : Int32 → zW → Prop} (h : zCi G M' [a0, a1, a2, a3] w Q) (hw : (st.map fun v => v.category).sum ≤ 8) (h0 : (M'.2.2.2.2.2.2.1, M'.2.2.2.2.2.2.2) = (0, 0)) (kk : ∀ r w9, Q r w9 → zk0 G X M (pc + 3) lo (.int r :: st) w9) : zk0 G X M pc lo (a3 :: a2 :: a1 :: a0 :: st) w := by
  have h1 : M'.2.2.2.2.2.2.1 = 0 := congrArg Prod.fst h0
  have h2 : M'.2.2.2.2.2.2.2 = 0 := congrArg Prod.snd h0
  refine zk_callS (As := [a0, a1, a2, a3]) hX d hy hm hv hr h rfl rfl hw ⟨by omega, by omega⟩ ?_
  rw [h1, h2, Nat.add_zero, Nat.add_zero]
  exact (fun v w9 q => by obtain ⟨r9, rfl, q⟩ := q; exact kk _ _ q)
theorem zk_V4l (hX : zH G X M) {idx c k : Nat} {a0 a1 a2 a3 : Value} (d : decode M.2.1 pc = .ok (.invokevirtual idx, 3)) (hy : zCal M' 4) (hm : Cond.methodLink M.1.cls idx M'.1 ∈ zTB) (hv : zVir M' c) (hr : zRoom M M' = true) (hk : k < zN) (hz : zsh k = (0, c, 0)) {r : Int64} (h : zEl G M' [.ref k, a0, a1, a2, a3] w r w1) (hw : (st.map fun v => v.category).sum ≤ 8) (h0 : (M'.2.2.2.2.2.2.1, M'.2.2.2.2.2.2.2) = (0, 0)) (kk : zk0 G X M (pc + 3) lo (.long r :: st) w1) : zk0 G X M pc lo (a3 :: a2 :: a1 :: a0 :: .ref k :: st) w := by
  have h1 : M'.2.2.2.2.2.2.1 = 0 := congrArg Prod.fst h0
  have h2 : M'.2.2.2.2.2.2.2 = 0 := congrArg Prod.snd h0
  refine zk_callV (As := [a0, a1, a2, a3]) hX d hy hm hv hr hk hz h rfl rfl hw ⟨by omega, by omega⟩ ?_
  rw [h1, h2, Nat.add_zero, Nat.add_zero]
  exact (fun v w9 q => by obtain ⟨r9, rfl, rfl, rfl⟩ := q; exact kk)
theorem zk_S4l (hX : zH G X M) {idx : Nat} {a0 a1 a2 a3 : Value} (d : decode M.2.1 pc = .ok (.invokestatic idx, 3)) (hy : zCal M' 4) (hm : Cond.methodLink M.1.cls idx M'.1 ∈ zTB) (hv : Cond.static M'.1 ∈ zTB) (hr : zRoom M M' = true) {r : Int64} (h : zEl G M' [a0, a1, a2, a3] w r w1) (hw : (st.map fun v => v.category).sum ≤ 8) (h0 : (M'.2.2.2.2.2.2.1, M'.2.2.2.2.2.2.2) = (0, 0)) (kk : zk0 G X M (pc + 3) lo (.long r :: st) w1) : zk0 G X M pc lo (a3 :: a2 :: a1 :: a0 :: st) w := by
  have h1 : M'.2.2.2.2.2.2.1 = 0 := congrArg Prod.fst h0
  have h2 : M'.2.2.2.2.2.2.2 = 0 := congrArg Prod.snd h0
  refine zk_callS (As := [a0, a1, a2, a3]) hX d hy hm hv hr h rfl rfl hw ⟨by omega, by omega⟩ ?_
  rw [h1, h2, Nat.add_zero, Nat.add_zero]
  exact (fun v w9 q => by obtain ⟨r9, rfl, rfl, rfl⟩ := q; exact kk)
theorem zk_V4lp (hX : zH G X M) {idx c k : Nat} {a0 a1 a2 a3 : Value} (d : decode M.2.1 pc = .ok (.invokevirtual idx, 3)) (hy : zCal M' 4) (hm : Cond.methodLink M.1.cls idx M'.1 ∈ zTB) (hv : zVir M' c) (hr : zRoom M M' = true) (hk : k < zN) (hz : zsh k = (0, c, 0)) {Q : Int64 → zW → Prop} (h : zCl G M' [.ref k, a0, a1, a2, a3] w Q) (hw : (st.map fun v => v.category).sum ≤ 8) (h0 : (M'.2.2.2.2.2.2.1, M'.2.2.2.2.2.2.2) = (0, 0)) (kk : ∀ r w9, Q r w9 → zk0 G X M (pc + 3) lo (.long r :: st) w9) : zk0 G X M pc lo (a3 :: a2 :: a1 :: a0 :: .ref k :: st) w := by
  have h1 : M'.2.2.2.2.2.2.1 = 0 := congrArg Prod.fst h0
  have h2 : M'.2.2.2.2.2.2.2 = 0 := congrArg Prod.snd h0
  refine zk_callV (As := [a0, a1, a2, a3]) hX d hy hm hv hr hk hz h rfl rfl hw ⟨by omega, by omega⟩ ?_
  rw [h1, h2, Nat.add_zero, Nat.add_zero]
  exact (fun v w9 q => by obtain ⟨r9, rfl, q⟩ := q; exact kk _ _ q)
theorem zk_S4lp (hX : zH G X M) {idx : Nat} {a0 a1 a2 a3 : Value} (d : decode M.2.1 pc = .ok (.invokestatic idx, 3)) (hy : zCal M' 4) (hm : Cond.methodLink M.1.cls idx M'.1 ∈ zTB) (hv : Cond.static M'.1 ∈ zTB) (hr : zRoom M M' = true) {Q : Int64 → zW → Prop} (h : zCl G M' [a0, a1, a2, a3] w Q) (hw : (st.map fun v => v.category).sum ≤ 8) (h0 : (M'.2.2.2.2.2.2.1, M'.2.2.2.2.2.2.2) = (0, 0)) (kk : ∀ r w9, Q r w9 → zk0 G X M (pc + 3) lo (.long r :: st) w9) : zk0 G X M pc lo (a3 :: a2 :: a1 :: a0 :: st) w := by
  have h1 : M'.2.2.2.2.2.2.1 = 0 := congrArg Prod.fst h0
  have h2 : M'.2.2.2.2.2.2.2 = 0 := congrArg Prod.snd h0
  refine zk_callS (As := [a0, a1, a2, a3]) hX d hy hm hv hr h rfl rfl hw ⟨by omega, by omega⟩ ?_
  rw [h1, h2, Nat.add_zero, Nat.add_zero]
  exact (fun v w9 q => by obtain ⟨r9, rfl, q⟩ := q; exact kk _ _ q)
theorem zk_V4v (hX : zH G X M) {idx c k : Nat} {a0 a1 a2 a3 : Value} (d : decode M.2.1 pc = .ok (.invokevirtual idx, 3)) (hy : zCal M' 4) (hm : Cond.methodLink M.1.cls idx M'.1 ∈ zTB) (hv : zVir M' c) (hr : zRoom M M' = true) (hk : k < zN) (hz : zsh k = (0, c, 0)) (h : zEv G M' [.ref k, a0, a1, a2, a3] w w1) (hw : (st.map fun v => v.category).sum ≤ 8) (h0 : (M'.2.2.2.2.2.2.1, M'.2.2.2.2.2.2.2) = (0, 0)) (kk : zk0 G X M (pc + 3) lo (st) w1) : zk0 G X M pc lo (a3 :: a2 :: a1 :: a0 :: .ref k :: st) w := by
  have h1 : M'.2.2.2.2.2.2.1 = 0 := congrArg Prod.fst h0
  have h2 : M'.2.2.2.2.2.2.2 = 0 := congrArg Prod.snd h0
  refine zk_callV (As := [a0, a1, a2, a3]) hX d hy hm hv hr hk hz h rfl rfl hw ⟨by omega, by omega⟩ ?_
  rw [h1, h2, Nat.add_zero, Nat.add_zero]
  exact (fun v w9 q => by obtain ⟨rfl, rfl⟩ := q; exact kk)
theorem zk_S4v (hX : zH G X M) {idx : Nat} {a0 a1 a2 a3 : Value} (d : decode M.2.1 pc = .ok (.invokestatic idx, 3)) (hy : zCal M' 4) (hm : Cond.methodLink M.1.cls idx M'.1 ∈ zTB) (hv : Cond.static M'.1 ∈ zTB) (hr : zRoom M M' = true) (h : zEv G M' [a0, a1, a2, a3] w w1) (hw : (st.map fun v => v.category).sum ≤ 8) (h0 : (M'.2.2.2.2.2.2.1, M'.2.2.2.2.2.2.2) = (0, 0)) (kk : zk0 G X M (pc + 3) lo (st) w1) : zk0 G X M pc lo (a3 :: a2 :: a1 :: a0 :: st) w := by
  have h1 : M'.2.2.2.2.2.2.1 = 0 := congrArg Prod.fst h0
  have h2 : M'.2.2.2.2.2.2.2 = 0 := congrArg Prod.snd h0
  refine zk_callS (As := [a0, a1, a2, a3]) hX d hy hm hv hr h rfl rfl hw ⟨by omega, by omega⟩ ?_
  rw [h1, h2, Nat.add_zero, Nat.add_zero]
  exact (fun v w9 q => by obtain ⟨rfl, rfl⟩ := q; exact kk)
theorem zk_V4vp (hX : zH G X M) {idx c k : Nat} {a0 a1 a2 a3 : Value} (d : decode M.2.1 pc = .ok (.invokevirtual idx, 3)) (hy : zCal M' 4) (hm : Cond.methodLink M.1.cls idx M'.1 ∈ zTB) (hv : zVir M' c) (hr : zRoom M M' = true) (hk : k < zN) (hz : zsh k = (0, c, 0)) {Q : zW → Prop} (h : zCv G M' [.ref k, a0, a1, a2, a3] w Q) (hw : (st.map fun v => v.category).sum ≤ 8) (h0 : (M'.2.2.2.2.2.2.1, M'.2.2.2.2.2.2.2) = (0, 0)) (kk : ∀ w9, Q w9 → zk0 G X M (pc + 3) lo st w9) : zk0 G X M pc lo (a3 :: a2 :: a1 :: a0 :: .ref k :: st) w := by
  have h1 : M'.2.2.2.2.2.2.1 = 0 := congrArg Prod.fst h0
  have h2 : M'.2.2.2.2.2.2.2 = 0 := congrArg Prod.snd h0
  refine zk_callV (As := [a0, a1, a2, a3]) hX d hy hm hv hr hk hz h rfl rfl hw ⟨by omega, by omega⟩ ?_
  rw [h1, h2, Nat.add_zero, Nat.add_zero]
  exact (fun v w9 q => by obtain ⟨rfl, q⟩ := q; exact kk _ q)
theorem zk_S4vp (hX : zH G X M) {idx : Nat} {a0 a1 a2 a3 : Value} (d : decode M.2.1 pc = .ok (.invokestatic idx, 3)) (hy : zCal M' 4) (hm : Cond.methodLink M.1.cls idx M'.1 ∈ zTB) (hv : Cond.static M'.1 ∈ zTB) (hr : zRoom M M' = true) {Q : zW → Prop} (h : zCv G M' [a0, a1, a2, a3] w Q) (hw : (st.map fun v => v.category).sum ≤ 8) (h0 : (M'.2.2.2.2.2.2.1, M'.2.2.2.2.2.2.2) = (0, 0)) (kk : ∀ w9, Q w9 → zk0 G X M (pc + 3) lo st w9) : zk0 G X M pc lo (a3 :: a2 :: a1 :: a0 :: st) w := by
  have h1 : M'.2.2.2.2.2.2.1 = 0 := congrArg Prod.fst h0
  have h2 : M'.2.2.2.2.2.2.2 = 0 := congrArg Prod.snd h0
  refine zk_callS (As := [a0, a1, a2, a3]) hX d hy hm hv hr h rfl rfl hw ⟨by omega, by omega⟩ ?_
  rw [h1, h2, Nat.add_zero, Nat.add_zero]
  exact (fun v w9 q => by obtain ⟨rfl, q⟩ := q; exact kk _ q)
theorem zk_V5i (hX : zH G X M) {idx c k : Nat} {a0 a1 a2 a3 a4 : Value} (d : decode M.2.1 pc = .ok (.invokevirtual idx, 3)) (hy : zCal M' 5) (hm : Cond.methodLink M.1.cls idx M'.1 ∈ zTB) (hv : zVir M' c) (hr : zRoom M M' = true) (hk : k < zN) (hz : zsh k = (0, c, 0)) {r : Int32} (h : zEi G M' [.ref k, a0, a1, a2, a3, a4] w r w1) (hw : (st.map fun v => v.category).sum ≤ 8) (h0 : (M'.2.2.2.2.2.2.1, M'.2.2.2.2.2.2.2) = (0, 0)) (kk : zk0 G X M (pc + 3) lo (.int r :: st) w1) : zk0 G X M pc lo (a4 :: a3 :: a2 :: a1 :: a0 :: .ref k :: st) w := by
  have h1 : M'.2.2.2.2.2.2.1 = 0 := congrArg Prod.fst h0
  have h2 : M'.2.2.2.2.2.2.2 = 0 := congrArg Prod.snd h0
  refine zk_callV (As := [a0, a1, a2, a3, a4]) hX d hy hm hv hr hk hz h rfl rfl hw ⟨by omega, by omega⟩ ?_
  rw [h1, h2, Nat.add_zero, Nat.add_zero]
  exact (fun v w9 q => by obtain ⟨r9, rfl, rfl, rfl⟩ := q; exact kk)
theorem zk_S5i (hX : zH G X M) {idx : Nat} {a0 a1 a2 a3 a4 : Value} (d : decode M.2.1 pc = .ok (.invokestatic idx, 3)) (hy : zCal M' 5) (hm : Cond.methodLink M.1.cls idx M'.1 ∈ zTB) (hv : Cond.static M'.1 ∈ zTB) (hr : zRoom M M' = true) {r : Int32} (h : zEi G M' [a0, a1, a2, a3, a4] w r w1) (hw : (st.map fun v => v.category).sum ≤ 8) (h0 : (M'.2.2.2.2.2.2.1, M'.2.2.2.2.2.2.2) = (0, 0)) (kk : zk0 G X M (pc + 3) lo (.int r :: st) w1) : zk0 G X M pc lo (a4 :: a3 :: a2 :: a1 :: a0 :: st) w := by
  have h1 : M'.2.2.2.2.2.2.1 = 0 := congrArg Prod.fst h0
  have h2 : M'.2.2.2.2.2.2.2 = 0 := congrArg Prod.snd h0
  refine zk_callS (As := [a0, a1, a2, a3, a4]) hX d hy hm hv hr h rfl rfl hw ⟨by omega, by omega⟩ ?_
  rw [h1, h2, Nat.add_zero, Nat.add_zero]
  exact (fun v w9 q => by obtain ⟨r9, rfl, rfl, rfl⟩ := q; exact kk)
theorem zk_V5ip (hX : zH G X M) {idx c k : Nat} {a0 a1 a2 a3 a4 : Value} (d : decode M.2.1 pc = .ok (.invokevirtual idx, 3)) (hy : zCal M' 5) (hm : Cond.methodLink M.1.cls idx M'.1 ∈ zTB) (hv : zVir M' c) (hr : zRoom M M' = true) (hk : k < zN) (hz : zsh k = (0, c, 0)) {Q : Int32 → zW → Prop} (h : zCi G M' [.ref k, a0, a1, a2, a3, a4] w Q) (hw : (st.map fun v => v.category).sum ≤ 8) (h0 : (M'.2.2.2.2.2.2.1, M'.2.2.2.2.2.2.2) = (0, 0)) (kk : ∀ r w9, Q r w9 → zk0 G X M (pc + 3) lo (.int r :: st) w9) : zk0 G X M pc lo (a4 :: a3 :: a2 :: a1 :: a0 :: .ref k :: st) w := by
  have h1 : M'.2.2.2.2.2.2.1 = 0 := congrArg Prod.fst h0
  have h2 : M'.2.2.2.2.2.2.2 = 0 := congrArg Prod.snd h0
  refine zk_callV (As := [a0, a1, a2, a3, a4]) hX d hy hm hv hr hk hz h rfl rfl hw ⟨by omega, by omega⟩ ?_
  rw [h1, h2, Nat.add_zero, Nat.add_zero]
  exact (fun v w9 q => by obtain ⟨r9, rfl, q⟩ := q; exact kk _ _ q)
theorem zk_S5ip (hX : zH G X M) {idx : Nat} {a0 a1 a2 a3 a4 : Value} (d : decode M.2.1 pc = .ok (.invokestatic idx, 3)) (hy : zCal M' 5) (hm : Cond.methodLink M.1.cls idx M'.1 ∈ zTB) (hv : Cond.static M'.1 ∈ zTB) (hr : zRoom M M' = true) {Q : Int32 → zW → Prop} (h : zCi G M' [a0, a1, a2, a3, a4] w Q) (hw : (st.map fun v => v.category).sum ≤ 8) (h0 : (M'.2.2.2.2.2.2.1, M'.2.2.2.2.2.2.2) = (0, 0)) (kk : ∀ r w9, Q r w9 → zk0 G X M (pc + 3) lo (.int r :: st) w9) : zk0 G X M pc lo (a4 :: a3 :: a2 :: a1 :: a0 :: st) w := by
  have h1 : M'.2.2.2.2.2.2.1 = 0 := congrArg Prod.fst h0
  have h2 : M'.2.2.2.2.2.2.2 = 0 := congrArg Prod.snd h0
  refine zk_callS (As := [a0, a1, a2, a3, a4]) hX d hy hm hv hr h rfl rfl hw ⟨by omega, by omega⟩ ?_
  rw [h1, h2, Nat.add_zero, Nat.add_zero]
  exact (fun v w9 q => by obtain ⟨r9, rfl, q⟩ := q; exact kk _ _ q)
theorem zk_V5l (hX : zH G X M) {idx c k : Nat} {a0 a1 a2 a3 a4 : Value} (d : decode M.2.1 pc = .ok (.invokevirtual idx, 3)) (hy : zCal M' 5) (hm : Cond.methodLink M.1.cls idx M'.1 ∈ zTB) (hv : zVir M' c) (hr : zRoom M M' = true) (hk : k < zN) (hz : zsh k = (0, c, 0)) {r : Int64} (h : zEl G M' [.ref k, a0, a1, a2, a3, a4] w r w1) (hw : (st.map fun v => v.category).sum ≤ 8) (h0 : (M'.2.2.2.2.2.2.1, M'.2.2.2.2.2.2.2) = (0, 0)) (kk : zk0 G X M (pc + 3) lo (.long r :: st) w1) : zk0 G X M pc lo (a4 :: a3 :: a2 :: a1 :: a0 :: .ref k :: st) w := by
  have h1 : M'.2.2.2.2.2.2.1 = 0 := congrArg Prod.fst h0
  have h2 : M'.2.2.2.2.2.2.2 = 0 := congrArg Prod.snd h0
  refine zk_callV (As := [a0, a1, a2, a3, a4]) hX d hy hm hv hr hk hz h rfl rfl hw ⟨by omega, by omega⟩ ?_
  rw [h1, h2, Nat.add_zero, Nat.add_zero]
  exact (fun v w9 q => by obtain ⟨r9, rfl, rfl, rfl⟩ := q; exact kk)
theorem zk_S5l (hX : zH G X M) {idx : Nat} {a0 a1 a2 a3 a4 : Value} (d : decode M.2.1 pc = .ok (.invokestatic idx, 3)) (hy : zCal M' 5) (hm : Cond.methodLink M.1.cls idx M'.1 ∈ zTB) (hv : Cond.static M'.1 ∈ zTB) (hr : zRoom M M' = true) {r : Int64} (h : zEl G M' [a0, a1, a2, a3, a4] w r w1) (hw : (st.map fun v => v.category).sum ≤ 8) (h0 : (M'.2.2.2.2.2.2.1, M'.2.2.2.2.2.2.2) = (0, 0)) (kk : zk0 G X M (pc + 3) lo (.long r :: st) w1) : zk0 G X M pc lo (a4 :: a3 :: a2 :: a1 :: a0 :: st) w := by
  have h1 : M'.2.2.2.2.2.2.1 = 0 := congrArg Prod.fst h0
  have h2 : M'.2.2.2.2.2.2.2 = 0 := congrArg Prod.snd h0
  refine zk_callS (As := [a0, a1, a2, a3, a4]) hX d hy hm hv hr h rfl rfl hw ⟨by omega, by omega⟩ ?_
  rw [h1, h2, Nat.add_zero, Nat.add_zero]
  exact (fun v w9 q => by obtain ⟨r9, rfl, rfl, rfl⟩ := q; exact kk)
theorem zk_V5lp (hX : zH G X M) {idx c k : Nat} {a0 a1 a2 a3 a4 : Value} (d : decode M.2.1 pc = .ok (.invokevirtual idx, 3)) (hy : zCal M' 5) (hm : Cond.methodLink M.1.cls idx M'.1 ∈ zTB) (hv : zVir M' c) (hr : zRoom M M' = true) (hk : k < zN) (hz : zsh k = (0, c, 0)) {Q : Int64 → zW → Prop} (h : zCl G M' [.ref k, a0, a1, a2, a3, a4] w Q) (hw : (st.map fun v => v.category).sum ≤ 8) (h0 : (M'.2.2.2.2.2.2.1, M'.2.2.2.2.2.2.2) = (0, 0)) (kk : ∀ r w9, Q r w9 → zk0 G X M (pc + 3) lo (.long r :: st) w9) : zk0 G X M pc lo (a4 :: a3 :: a2 :: a1 :: a0 :: .ref k :: st) w := by
  have h1 : M'.2.2.2.2.2.2.1 = 0 := congrArg Prod.fst h0
  have h2 : M'.2.2.2.2.2.2.2 = 0 := congrArg Prod.snd h0
  refine zk_callV (As := [a0, a1, a2, a3, a4]) hX d hy hm hv hr hk hz h rfl rfl hw ⟨by omega, by omega⟩ ?_
  rw [h1, h2, Nat.add_zero, Nat.add_zero]
  exact (fun v w9 q => by obtain ⟨r9, rfl, q⟩ := q; exact kk _ _ q)
theorem zk_S5lp (hX : zH G X M) {idx : Nat} {a0 a1 a2 a3 a4 : Value} (d : decode M.2.1 pc = .ok (.invokestatic idx, 3)) (hy : zCal M' 5) (hm : Cond.methodLink M.1.cls idx M'.1 ∈ zTB) (hv : Cond.static M'.1 ∈ zTB) (hr : zRoom M M' = true) {Q : Int64 → zW → Prop} (h : zCl G M' [a0, a1, a2, a3, a4] w Q) (hw : (st.map fun v => v.category).sum ≤ 8) (h0 : (M'.2.2.2.2.2.2.1, M'.2.2.2.2.2.2.2) = (0, 0)) (kk : ∀ r w9, Q r w9 → zk0 G X M (pc + 3) lo (.long r :: st) w9) : zk0 G X M pc lo (a4 :: a3 :: a2 :: a1 :: a0 :: st) w := by
  have h1 : M'.2.2.2.2.2.2.1 = 0 := congrArg Prod.fst h0
  have h2 : M'.2.2.2.2.2.2.2 = 0 := congrArg Prod.snd h0
  refine zk_callS (As := [a0, a1, a2, a3, a4]) hX d hy hm hv hr h rfl rfl hw ⟨by omega, by omega⟩ ?_
  rw [h1, h2, Nat.add_zero, Nat.add_zero]
  exact (fun v w9 q => by obtain ⟨r9, rfl, q⟩ := q; exact kk _ _ q)
theorem zk_V5v (hX : zH G X M) {idx c k : Nat} {a0 a1 a2 a3 a4 : Value} (d : decode M.2.1 pc = .ok (.invokevirtual idx, 3)) (hy : zCal M' 5) (hm : Cond.methodLink M.1.cls idx M'.1 ∈ zTB) (hv : zVir M' c) (hr : zRoom M M' = true) (hk : k < zN) (hz : zsh k = (0, c, 0)) (h : zEv G M' [.ref k, a0, a1, a2, a3, a4] w w1) (hw : (st.map fun v => v.category).sum ≤ 8) (h0 : (M'.2.2.2.2.2.2.1, M'.2.2.2.2.2.2.2) = (0, 0)) (kk : zk0 G X M (pc + 3) lo (st) w1) : zk0 G X M pc lo (a4 :: a3 :: a2 :: a1 :: a0 :: .ref k :: st) w := by
  have h1 : M'.2.2.2.2.2.2.1 = 0 := congrArg Prod.fst h0
  have h2 : M'.2.2.2.2.2.2.2 = 0 := congrArg Prod.snd h0
  refine zk_callV (As := [a0, a1, a2, a3, a4]) hX d hy hm hv hr hk hz h rfl rfl hw ⟨by omega, by omega⟩ ?_
  rw [h1, h2, Nat.add_zero, Nat.add_zero]
  exact (fun v w9 q => by obtain ⟨rfl, rfl⟩ := q; exact kk)
theorem zk_S5v (hX : zH G X M) {idx : Nat} {a0 a1 a2 a3 a4 : Value} (d : decode M.2.1 pc = .ok (.invokestatic idx, 3)) (hy : zCal M' 5) (hm : Cond.methodLink M.1.cls idx M'.1 ∈ zTB) (hv : Cond.static M'.1 ∈ zTB) (hr : zRoom M M' = true) (h : zEv G M' [a0, a1, a2, a3, a4] w w1) (hw : (st.map fun v => v.category).sum ≤ 8) (h0 : (M'.2.2.2.2.2.2.1, M'.2.2.2.2.2.2.2) = (0, 0)) (kk : zk0 G X M (pc + 3) lo (st) w1) : zk0 G X M pc lo (a4 :: a3 :: a2 :: a1 :: a0 :: st) w := by
  have h1 : M'.2.2.2.2.2.2.1 = 0 := congrArg Prod.fst h0
  have h2 : M'.2.2.2.2.2.2.2 = 0 := congrArg Prod.snd h0
  refine zk_callS (As := [a0, a1, a2, a3, a4]) hX d hy hm hv hr h rfl rfl hw ⟨by omega, by omega⟩ ?_
  rw [h1, h2, Nat.add_zero, Nat.add_zero]
  exact (fun v w9 q => by obtain ⟨rfl, rfl⟩ := q; exact kk)
theorem zk_V5vp (hX : zH G X M) {idx c k : Nat} {a0 a1 a2 a3 a4 : Value} (d : decode M.2.1 pc = .ok (.invokevirtual idx, 3)) (hy : zCal M' 5) (hm : Cond.methodLink M.1.cls idx M'.1 ∈ zTB) (hv : zVir M' c) (hr : zRoom M M' = true) (hk : k < zN) (hz : zsh k = (0, c, 0)) {Q : zW → Prop} (h : zCv G M' [.ref k, a0, a1, a2, a3, a4] w Q) (hw : (st.map fun v => v.category).sum ≤ 8) (h0 : (M'.2.2.2.2.2.2.1, M'.2.2.2.2.2.2.2) = (0, 0)) (kk : ∀ w9, Q w9 → zk0 G X M (pc + 3) lo st w9) : zk0 G X M pc lo (a4 :: a3 :: a2 :: a1 :: a0 :: .ref k :: st) w := by
  have h1 : M'.2.2.2.2.2.2.1 = 0 := congrArg Prod.fst h0
  have h2 : M'.2.2.2.2.2.2.2 = 0 := congrArg Prod.snd h0
  refine zk_callV (As := [a0, a1, a2, a3, a4]) hX d hy hm hv hr hk hz h rfl rfl hw ⟨by omega, by omega⟩ ?_
  rw [h1, h2, Nat.add_zero, Nat.add_zero]
  exact (fun v w9 q => by obtain ⟨rfl, q⟩ := q; exact kk _ q)
theorem zk_S5vp (hX : zH G X M) {idx : Nat} {a0 a1 a2 a3 a4 : Value} (d : decode M.2.1 pc = .ok (.invokestatic idx, 3)) (hy : zCal M' 5) (hm : Cond.methodLink M.1.cls idx M'.1 ∈ zTB) (hv : Cond.static M'.1 ∈ zTB) (hr : zRoom M M' = true) {Q : zW → Prop} (h : zCv G M' [a0, a1, a2, a3, a4] w Q) (hw : (st.map fun v => v.category).sum ≤ 8) (h0 : (M'.2.2.2.2.2.2.1, M'.2.2.2.2.2.2.2) = (0, 0)) (kk : ∀ w9, Q w9 → zk0 G X M (pc + 3) lo st w9) : zk0 G X M pc lo (a4 :: a3 :: a2 :: a1 :: a0 :: st) w := by
  have h1 : M'.2.2.2.2.2.2.1 = 0 := congrArg Prod.fst h0
  have h2 : M'.2.2.2.2.2.2.2 = 0 := congrArg Prod.snd h0
  refine zk_callS (As := [a0, a1, a2, a3, a4]) hX d hy hm hv hr h rfl rfl hw ⟨by omega, by omega⟩ ?_
  rw [h1, h2, Nat.add_zero, Nat.add_zero]
  exact (fun v w9 q => by obtain ⟨rfl, q⟩ := q; exact kk _ q)
theorem zk_V6i (hX : zH G X M) {idx c k : Nat} {a0 a1 a2 a3 a4 a5 : Value} (d : decode M.2.1 pc = .ok (.invokevirtual idx, 3)) (hy : zCal M' 6) (hm : Cond.methodLink M.1.cls idx M'.1 ∈ zTB) (hv : zVir M' c) (hr : zRoom M M' = true) (hk : k < zN) (hz : zsh k = (0, c, 0)) {r : Int32} (h : zEi G M' [.ref k, a0, a1, a2, a3, a4, a5] w r w1) (hw : (st.map fun v => v.category).sum ≤ 8) (h0 : (M'.2.2.2.2.2.2.1, M'.2.2.2.2.2.2.2) = (0, 0)) (kk : zk0 G X M (pc + 3) lo (.int r :: st) w1) : zk0 G X M pc lo (a5 :: a4 :: a3 :: a2 :: a1 :: a0 :: .ref k :: st) w := by
  have h1 : M'.2.2.2.2.2.2.1 = 0 := congrArg Prod.fst h0
  have h2 : M'.2.2.2.2.2.2.2 = 0 := congrArg Prod.snd h0
  refine zk_callV (As := [a0, a1, a2, a3, a4, a5]) hX d hy hm hv hr hk hz h rfl rfl hw ⟨by omega, by omega⟩ ?_
  rw [h1, h2, Nat.add_zero, Nat.add_zero]
  exact (fun v w9 q => by obtain ⟨r9, rfl, rfl, rfl⟩ := q; exact kk)
theorem zk_S6i (hX : zH G X M) {idx : Nat} {a0 a1 a2 a3 a4 a5 : Value} (d : decode M.2.1 pc = .ok (.invokestatic idx, 3)) (hy : zCal M' 6) (hm : Cond.methodLink M.1.cls idx M'.1 ∈ zTB) (hv : Cond.static M'.1 ∈ zTB) (hr : zRoom M M' = true) {r : Int32} (h : zEi G M' [a0, a1, a2, a3, a4, a5] w r w1) (hw : (st.map fun v => v.category).sum ≤ 8) (h0 : (M'.2.2.2.2.2.2.1, M'.2.2.2.2.2.2.2) = (0, 0)) (kk : zk0 G X M (pc + 3) lo (.int r :: st) w1) : zk0 G X M pc lo (a5 :: a4 :: a3 :: a2 :: a1 :: a0 :: st) w := by
  have h1 : M'.2.2.2.2.2.2.1 = 0 := congrArg Prod.fst h0
  have h2 : M'.2.2.2.2.2.2.2 = 0 := congrArg Prod.snd h0
  refine zk_callS (As := [a0, a1, a2, a3, a4, a5]) hX d hy hm hv hr h rfl rfl hw ⟨by omega, by omega⟩ ?_
  rw [h1, h2, Nat.add_zero, Nat.add_zero]
  exact (fun v w9 q => by obtain ⟨r9, rfl, rfl, rfl⟩ := q; exact kk)
theorem zk_V6ip (hX : zH G X M) {idx c k : Nat} {a0 a1 a2 a3 a4 a5 : Value} (d : decode M.2.1 pc = .ok (.invokevirtual idx, 3)) (hy : zCal M' 6) (hm : Cond.methodLink M.1.cls idx M'.1 ∈ zTB) (hv : zVir M' c) (hr : zRoom M M' = true) (hk : k < zN) (hz : zsh k = (0, c, 0)) {Q : Int32 → zW → Prop} (h : zCi G M' [.ref k, a0, a1, a2, a3, a4, a5] w Q) (hw : (st.map fun v => v.category).sum ≤ 8) (h0 : (M'.2.2.2.2.2.2.1, M'.2.2.2.2.2.2.2) = (0, 0)) (kk : ∀ r w9, Q r w9 → zk0 G X M (pc + 3) lo (.int r :: st) w9) : zk0 G X M pc lo (a5 :: a4 :: a3 :: a2 :: a1 :: a0 :: .ref k :: st) w := by
  have h1 : M'.2.2.2.2.2.2.1 = 0 := congrArg Prod.fst h0
  have h2 : M'.2.2.2.2.2.2.2 = 0 := congrArg Prod.snd h0
  refine zk_callV (As := [a0, a1, a2, a3, a4, a5]) hX d hy hm hv hr hk hz h rfl rfl hw ⟨by omega, by omega⟩ ?_
  rw [h1, h2, Nat.add_zero, Nat.add_zero]
  exact (fun v w9 q => by obtain ⟨r9, rfl, q⟩ := q; exact kk _ _ q)
theorem zk_S6ip (hX : zH G X M) {idx : Nat} {a0 a1 a2 a3 a4 a5 : Value} (d : decode M.2.1 pc = .ok (.invokestatic idx, 3)) (hy : zCal M' 6) (hm : Cond.methodLink M.1.cls idx M'.1 ∈ zTB) (hv : Cond.static M'.1 ∈ zTB) (hr : zRoom M M' = true) {Q : Int32 → zW → Prop} (h : zCi G M' [a0, a1, a2, a3, a4, a5] w Q) (hw : (st.map fun v => v.category).sum ≤ 8) (h0 : (M'.2.2.2.2.2.2.1, M'.2.2.2.2.2.2.2) = (0, 0)) (kk : ∀ r w9, Q r w9 → zk0 G X M (pc + 3) lo (.int r :: st) w9) : zk0 G X M pc lo (a5 :: a4 :: a3 :: a2 :: a1 :: a0 :: st) w := by
  have h1 : M'.2.2.2.2.2.2.1 = 0 := congrArg Prod.fst h0
  have h2 : M'.2.2.2.2.2.2.2 = 0 := congrArg Prod.snd h0
  refine zk_callS (As := [a0, a1, a2, a3, a4, a5]) hX d hy hm hv hr h rfl rfl hw ⟨by omega, by omega⟩ ?_
  rw [h1, h2, Nat.add_zero, Nat.add_zero]
  exact (fun v w9 q => by obtain ⟨r9, rfl, q⟩ := q; exact kk _ _ q)
theorem zk_V6l (hX : zH G X M) {idx c k : Nat} {a0 a1 a2 a3 a4 a5 : Value} (d : decode M.2.1 pc = .ok (.invokevirtual idx, 3)) (hy : zCal M' 6) (hm : Cond.methodLink M.1.cls idx M'.1 ∈ zTB) (hv : zVir M' c) (hr : zRoom M M' = true) (hk : k < zN) (hz : zsh k = (0, c, 0)) {r : Int64} (h : zEl G M' [.ref k, a0, a1, a2, a3, a4, a5] w r w1) (hw : (st.map fun v => v.category).sum ≤ 8) (h0 : (M'.2.2.2.2.2.2.1, M'.2.2.2.2.2.2.2) = (0, 0)) (kk : zk0 G X M (pc + 3) lo (.long r :: st) w1) : zk0 G X M pc lo (a5 :: a4 :: a3 :: a2 :: a1 :: a0 :: .ref k :: st) w := by
  have h1 : M'.2.2.2.2.2.2.1 = 0 := congrArg Prod.fst h0
  have h2 : M'.2.2.2.2.2.2.2 = 0 := congrArg Prod.snd h0
  refine zk_callV (As := [a0, a1, a2, a3, a4, a5]) hX d hy hm hv hr hk hz h rfl rfl hw ⟨by omega, by omega⟩ ?_
  rw [h1, h2, Nat.add_zero, Nat.add_zero]
  exact (fun v w9 q => by obtain ⟨r9, rfl, rfl, rfl⟩ := q; exact kk)
theorem zk_S6l (hX : zH G X M) {idx : Nat} {a0 a1 a2 a3 a4 a5 : Value} (d : decode M.2.1 pc = .ok (.invokestatic idx, 3)) (hy : zCal M' 6) (hm : Cond.methodLink M.1.cls idx M'.1 ∈ zTB) (hv : Cond.static M'.1 ∈ zTB) (hr : zRoom M M' = true) {r : Int64} (h : zEl G M' [a0, a1, a2, a3, a4, a5] w r w1) (hw : (st.map fun v => v.category).sum ≤ 8) (h0 : (M'.2.2.2.2.2.2.1, M'.2.2.2.2.2.2.2) = (0, 0)) (kk : zk0 G X M (pc + 3) lo (.long r :: st) w1) : zk0 G X M pc lo (a5 :: a4 :: a3 :: a2 :: a1 :: a0 :: st) w := by
  have h1 : M'.2.2.2.2.2.2.1 = 0 := congrArg Prod.fst h0
  have h2 : M'.2.2.2.2.2.2.2 = 0 := congrArg Prod.snd h0
  refine zk_callS (As := [a0, a1, a2, a3, a4, a5]) hX d hy hm hv hr h rfl rfl hw ⟨by omega, by omega⟩ ?_
  rw [h1, h2, Nat.add_zero, Nat.add_zero]
  exact (fun v w9 q => by obtain ⟨r9, rfl, rfl, rfl⟩ := q; exact kk)
theorem zk_V6lp (hX : zH G X M) {idx c k : Nat} {a0 a1 a2 a3 a4 a5 : Value} (d : decode M.2.1 pc = .ok (.invokevirtual idx, 3)) (hy : zCal M' 6) (hm : Cond.methodLink M.1.cls idx M'.1 ∈ zTB) (hv : zVir M' c) (hr : zRoom M M' = true) (hk : k < zN) (hz : zsh k = (0, c, 0)) {Q : Int64 → zW → Prop} (h : zCl G M' [.ref k, a0, a1, a2, a3, a4, a5] w Q) (hw : (st.map fun v => v.category).sum ≤ 8) (h0 : (M'.2.2.2.2.2.2.1, M'.2.2.2.2.2.2.2) = (0, 0)) (kk : ∀ r w9, Q r w9 → zk0 G X M (pc + 3) lo (.long r :: st) w9) : zk0 G X M pc lo (a5 :: a4 :: a3 :: a2 :: a1 :: a0 :: .ref k :: st) w := by
  have h1 : M'.2.2.2.2.2.2.1 = 0 := congrArg Prod.fst h0
  have h2 : M'.2.2.2.2.2.2.2 = 0 := congrArg Prod.snd h0
  refine zk_callV (As := [a0, a1, a2, a3, a4, a5]) hX d hy hm hv hr hk hz h rfl rfl hw ⟨by omega, by omega⟩ ?_
  rw [h1, h2, Nat.add_zero, Nat.add_zero]
  exact (fun v w9 q => by obtain ⟨r9, rfl, q⟩ := q; exact kk _ _ q)
theorem zk_S6lp (hX : zH G X M) {idx : Nat} {a0 a1 a2 a3 a4 a5 : Value} (d : decode M.2.1 pc = .ok (.invokestatic idx, 3)) (hy : zCal M' 6) (hm : Cond.methodLink M.1.cls idx M'.1 ∈ zTB) (hv : Cond.static M'.1 ∈ zTB) (hr : zRoom M M' = true) {Q : Int64 → zW → Prop} (h : zCl G M' [a0, a1, a2, a3, a4, a5] w Q) (hw : (st.map fun v => v.category).sum ≤ 8) (h0 : (M'.2.2.2.2.2.2.1, M'.2.2.2.2.2.2.2) = (0, 0)) (kk : ∀ r w9, Q r w9 → zk0 G X M (pc + 3) lo (.long r :: st) w9) : zk0 G X M pc lo (a5 :: a4 :: a3 :: a2 :: a1 :: a0 :: st) w := by
  have h1 : M'.2.2.2.2.2.2.1 = 0 := congrArg Prod.fst h0
  have h2 : M'.2.2.2.2.2.2.2 = 0 := congrArg Prod.snd h0
  refine zk_callS (As := [a0, a1, a2, a3, a4, a5]) hX d hy hm hv hr h rfl rfl hw ⟨by omega, by omega⟩ ?_
  rw [h1, h2, Nat.add_zero, Nat.add_zero]
  exact (fun v w9 q => by obtain ⟨r9, rfl, q⟩ := q; exact kk _ _ q)
theorem zk_V6v (hX : zH G X M) {idx c k : Nat} {a0 a1 a2 a3 a4 a5 : Value} (d : decode M.2.1 pc = .ok (.invokevirtual idx, 3)) (hy : zCal M' 6) (hm : Cond.methodLink M.1.cls idx M'.1 ∈ zTB) (hv : zVir M' c) (hr : zRoom M M' = true) (hk : k < zN) (hz : zsh k = (0, c, 0)) (h : zEv G M' [.ref k, a0, a1, a2, a3, a4, a5] w w1) (hw : (st.map fun v => v.category).sum ≤ 8) (h0 : (M'.2.2.2.2.2.2.1, M'.2.2.2.2.2.2.2) = (0, 0)) (kk : zk0 G X M (pc + 3) lo (st) w1) : zk0 G X M pc lo (a5 :: a4 :: a3 :: a2 :: a1 :: a0 :: .ref k :: st) w := by
  have h1 : M'.2.2.2.2.2.2.1 = 0 := congrArg Prod.fst h0
  have h2 : M'.2.2.2.2.2.2.2 = 0 := congrArg Prod.snd h0
  refine zk_callV (As := [a0, a1, a2, a3, a4, a5]) hX d hy hm hv hr hk hz h rfl rfl hw ⟨by omega, by omega⟩ ?_
  rw [h1, h2, Nat.add_zero, Nat.add_zero]
  exact (fun v w9 q => by obtain ⟨rfl, rfl⟩ := q; exact kk)
theorem zk_S6v (hX : zH G X M) {idx : Nat} {a0 a1 a2 a3 a4 a5 : Value} (d : decode M.2.1 pc = .ok (.invokestatic idx, 3)) (hy : zCal M' 6) (hm : Cond.methodLink M.1.cls idx M'.1 ∈ zTB) (hv : Cond.static M'.1 ∈ zTB) (hr : zRoom M M' = true) (h : zEv G M' [a0, a1, a2, a3, a4, a5] w w1) (hw : (st.map fun v => v.category).sum ≤ 8) (h0 : (M'.2.2.2.2.2.2.1, M'.2.2.2.2.2.2.2) = (0, 0)) (kk : zk0 G X M (pc + 3) lo (st) w1) : zk0 G X M pc lo (a5 :: a4 :: a3 :: a2 :: a1 :: a0 :: st) w := by
  have h1 : M'.2.2.2.2.2.2.1 = 0 := congrArg Prod.fst h0
  have h2 : M'.2.2.2.2.2.2.2 = 0 := congrArg Prod.snd h0
  refine zk_callS (As := [a0, a1, a2, a3, a4, a5]) hX d hy hm hv hr h rfl rfl hw ⟨by omega, by omega⟩ ?_
  rw [h1, h2, Nat.add_zero, Nat.add_zero]
  exact (fun v w9 q => by obtain ⟨rfl, rfl⟩ := q; exact kk)
theorem zk_V6vp (hX : zH G X M) {idx c k : Nat} {a0 a1 a2 a3 a4 a5 : Value} (d : decode M.2.1 pc = .ok (.invokevirtual idx, 3)) (hy : zCal M' 6) (hm : Cond.methodLink M.1.cls idx M'.1 ∈ zTB) (hv : zVir M' c) (hr : zRoom M M' = true) (hk : k < zN) (hz : zsh k = (0, c, 0)) {Q : zW → Prop} (h : zCv G M' [.ref k, a0, a1, a2, a3, a4, a5] w Q) (hw : (st.map fun v => v.category).sum ≤ 8) (h0 : (M'.2.2.2.2.2.2.1, M'.2.2.2.2.2.2.2) = (0, 0)) (kk : ∀ w9, Q w9 → zk0 G X M (pc + 3) lo st w9) : zk0 G X M pc lo (a5 :: a4 :: a3 :: a2 :: a1 :: a0 :: .ref k :: st) w := by
  have h1 : M'.2.2.2.2.2.2.1 = 0 := congrArg Prod.fst h0
  have h2 : M'.2.2.2.2.2.2.2 = 0 := congrArg Prod.snd h0
  refine zk_callV (As := [a0, a1, a2, a3, a4, a5]) hX d hy hm hv hr hk hz h rfl rfl hw ⟨by omega, by omega⟩ ?_
  rw [h1, h2, Nat.add_zero, Nat.add_zero]
  exact (fun v w9 q => by obtain ⟨rfl, q⟩ := q; exact kk _ q)
theorem zk_S6vp (hX : zH G X M) {idx : Nat} {a0 a1 a2 a3 a4 a5 : Value} (d : decode M.2.1 pc = .ok (.invokestatic idx, 3)) (hy : zCal M' 6) (hm : Cond.methodLink M.1.cls idx M'.1 ∈ zTB) (hv : Cond.static M'.1 ∈ zTB) (hr : zRoom M M' = true) {Q : zW → Prop} (h : zCv G M' [a0, a1, a2, a3, a4, a5] w Q) (hw : (st.map fun v => v.category).sum ≤ 8) (h0 : (M'.2.2.2.2.2.2.1, M'.2.2.2.2.2.2.2) = (0, 0)) (kk : ∀ w9, Q w9 → zk0 G X M (pc + 3) lo st w9) : zk0 G X M pc lo (a5 :: a4 :: a3 :: a2 :: a1 :: a0 :: st) w := by
  have h1 : M'.2.2.2.2.2.2.1 = 0 := congrArg Prod.fst h0
  have h2 : M'.2.2.2.2.2.2.2 = 0 := congrArg Prod.snd h0
  refine zk_callS (As := [a0, a1, a2, a3, a4, a5]) hX d hy hm hv hr h rfl rfl hw ⟨by omega, by omega⟩ ?_
  rw [h1, h2, Nat.add_zero, Nat.add_zero]
  exact (fun v w9 q => by obtain ⟨rfl, q⟩ := q; exact kk _ q)
theorem zk_mmax (hX : zH G X M) {idx : Nat} {x y : Int32} (d : decode M.2.1 pc = .ok (.invokestatic idx, 3)) (h1 : Cond.methodLink M.1.cls idx Lib.Math.max.name ∈ zTB) (hr : Nat.ble 1 M.2.2.2.2.1 = true ∧ Nat.ble ((st.map fun v => v.category).sum + 13) M.2.2.2.2.2.1 = true) (kk : zk0 G X M (pc + 3) lo (.int (if x < y then y else x) :: st) w) : zk0 G X M pc lo (.int y :: .int x :: st) w :=
  fun H locs hR hS ls hl => va_mmax hX.1 hX.2.1 (hX.2.2.1.trans hl.1.symm) hX.2.2.2.1 (hX.2.2.2.2.1 _ h1) (hX.2.2.2.2.1 _ smJ9_max_7cf53) (hX.2.2.2.2.1 _ maI) (hX.2.2.2.2.1 _ cdJ9_max) (Nat.le_of_ble_eq_true hr.1) (by rw [zcat]; exact Nat.le_of_ble_eq_true hr.2) (Nat.le_refl _) (Nat.le_refl _) d (kk H locs hR hS ls hl)
theorem zk_mmin (hX : zH G X M) {idx : Nat} {x y : Int32} (d : decode M.2.1 pc = .ok (.invokestatic idx, 3)) (h1 : Cond.methodLink M.1.cls idx Lib.Math.min.name ∈ zTB) (hr : Nat.ble 1 M.2.2.2.2.1 = true ∧ Nat.ble ((st.map fun v => v.category).sum + 13) M.2.2.2.2.2.1 = true) (kk : zk0 G X M (pc + 3) lo (.int (if y < x then y else x) :: st) w) : zk0 G X M pc lo (.int y :: .int x :: st) w :=
  fun H locs hR hS ls hl => va_mmin hX.1 hX.2.1 (hX.2.2.1.trans hl.1.symm) hX.2.2.2.1 (hX.2.2.2.2.1 _ h1) (hX.2.2.2.2.1 _ smJ9_min_7cf53) (hX.2.2.2.2.1 _ maI) (hX.2.2.2.2.1 _ cdJ9_min) (Nat.le_of_ble_eq_true hr.1) (by rw [zcat]; exact Nat.le_of_ble_eq_true hr.2) (Nat.le_refl _) (Nat.le_refl _) d (kk H locs hR hS ls hl)
theorem zk_mabs (hX : zH G X M) {idx : Nat} {x : Int32} (d : decode M.2.1 pc = .ok (.invokestatic idx, 3)) (h1 : Cond.methodLink M.1.cls idx Lib.Math.abs.name ∈ zTB) (hr : Nat.ble 1 M.2.2.2.2.1 = true ∧ Nat.ble ((st.map fun v => v.category).sum + 13) M.2.2.2.2.2.1 = true) (kk : zk0 G X M (pc + 3) lo (.int (if 0 ≤ x then x else 0 - x) :: st) w) : zk0 G X M pc lo (.int x :: st) w :=
  fun H locs hR hS ls hl => va_mabs hX.1 hX.2.1 (hX.2.2.1.trans hl.1.symm) hX.2.2.2.1 (hX.2.2.2.2.1 _ h1) (hX.2.2.2.2.1 _ smJ9_abs_0f7a4) (hX.2.2.2.2.1 _ maI) (hX.2.2.2.2.1 _ cdJ9_abs) (Nat.le_of_ble_eq_true hr.1) (by rw [zcat]; exact Nat.le_of_ble_eq_true hr.2) (Nat.le_refl _) (Nat.le_refl _) d (kk H locs hR hS ls hl)
theorem zk_ialdE (hX : zH G X M) {k L j : Nat} {i : Int32} (d : decode M.2.1 pc = .ok (.iaload, 1)) (e : i = nI j) (hk : k < zN) (hz : zsh k = (1, 0, L)) (hj : j < L) (hL : Nat.ble L 5000 = true) (kk : zk0 G X M (pc + 1) lo (.int (w.1 k j) :: st) w) : zk0 G X M pc lo (.int i :: .ref k :: st) w := by
  subst e
  have h1 := Nat.le_of_ble_eq_true hL
  refine zk_iald hX d hk hz (vp_in_nI hj (by omega)) ?_
  rw [nI_clamp (by omega)]
  exact kk
theorem zk_baldE (hX : zH G X M) {k L j : Nat} {i : Int32} (d : decode M.2.1 pc = .ok (.baload, 1)) (e : i = nI j) (hk : k < zN) (hz : zsh k = (1, 1, L)) (hj : j < L) (hL : Nat.ble L 5000 = true) (kk : zk0 G X M (pc + 1) lo (.int (w.1 k j) :: st) w) : zk0 G X M pc lo (.int i :: .ref k :: st) w := by
  subst e
  have h1 := Nat.le_of_ble_eq_true hL
  refine zk_bald hX d hk hz (vp_in_nI hj (by omega)) ?_
  rw [nI_clamp (by omega)]
  exact kk
theorem zk_laldE (hX : zH G X M) {k L j : Nat} {i : Int32} (d : decode M.2.1 pc = .ok (.laload, 1)) (e : i = nI j) (hk : k < zN) (hz : zsh k = (2, 3, L)) (hj : j < L) (hL : Nat.ble L 5000 = true) (kk : zk0 G X M (pc + 1) lo (.long (w.2.1 k j) :: st) w) : zk0 G X M pc lo (.int i :: .ref k :: st) w := by
  subst e
  have h1 := Nat.le_of_ble_eq_true hL
  refine zk_lald hX d hk hz (vp_in_nI hj (by omega)) ?_
  rw [nI_clamp (by omega)]
  exact kk
theorem zk_iastE (hX : zH G X M) {k L j : Nat} {x : Int32} {i : Int32} (d : decode M.2.1 pc = .ok (.iastore, 1)) (e : i = nI j) (hk : k < zN) (hz : zsh k = (1, 0, L)) (hj : j < L) (hL : Nat.ble L 5000 = true) (kk : zk0 G X M (pc + 1) lo st (zsi w k j x)) : zk0 G X M pc lo (.int x :: .int i :: .ref k :: st) w := by
  subst e
  have h1 := Nat.le_of_ble_eq_true hL
  refine zk_iast hX d (Or.inl rfl) hk hz (vp_in_nI hj (by omega)) ?_
  rw [nI_clamp (by omega)]
  exact kk
theorem zk_bastE (hX : zH G X M) {k L j : Nat} {x : Int32} {i : Int32} (d : decode M.2.1 pc = .ok (.bastore, 1)) (e : i = nI j) (hk : k < zN) (hz : zsh k = (1, 1, L)) (hj : j < L) (hL : Nat.ble L 5000 = true) (kk : zk0 G X M (pc + 1) lo st (zsi w k j (vp_nar .byte x))) : zk0 G X M pc lo (.int x :: .int i :: .ref k :: st) w := by
  subst e
  have h1 := Nat.le_of_ble_eq_true hL
  refine zk_bast hX d (Or.inl rfl) hk hz (vp_in_nI hj (by omega)) ?_
  rw [nI_clamp (by omega)]
  exact kk
theorem zk_lastE (hX : zH G X M) {k L j : Nat} {x : Int64} {i : Int32} (d : decode M.2.1 pc = .ok (.lastore, 1)) (e : i = nI j) (hk : k < zN) (hz : zsh k = (2, 3, L)) (hj : j < L) (hL : Nat.ble L 5000 = true) (kk : zk0 G X M (pc + 1) lo st (zsl w k j x)) : zk0 G X M pc lo (.long x :: .int i :: .ref k :: st) w := by
  subst e
  have h1 := Nat.le_of_ble_eq_true hL
  refine zk_last hX d (Or.inl rfl) hk hz (vp_in_nI hj (by omega)) ?_
  rw [nI_clamp (by omega)]
  exact kk
theorem zk_aaldN (hX : zH G X M) {k t L j a : Nat} {ty : FieldType} (d : decode M.2.1 pc = .ok (.aaload, 1)) (hk : k < zN) (hz : zsh k = (3, t, L)) (ht : (zty G.2.2.1)[t]? = some (G.2.2.1 t, ty)) (hr : ty.isReference = true) (hj : j < L) (hL : Nat.ble L 5000 = true) (ha : w.2.2 k j = some a) (kk : zk0 G X M (pc + 1) lo (.ref a :: st) w) : zk0 G X M pc lo (.int (nI j) :: .ref k :: st) w := by
  have h1 := Nat.le_of_ble_eq_true hL
  exact zk_aald hX d hk hz ht hr (vp_in_nI hj (by omega)) (by rw [nI_clamp (by omega)]; exact ha) kk
/-- a constant as nI -/
theorem zk_iconstN (hX : zH G X M) {z : Int} {j : Nat} (d : decode M.2.1 pc = .ok (.iconst z, 1)) (hv : z = (j : Int)) (k : zk0 G X M (pc + 1) lo (.int (nI j) :: st) w) : zk0 G X M pc lo st w := zk_iconst hX d (by subst hv; rfl) k
end ZV
def zb (p : Prop) [Decidable p] : Int32 := if p then 1 else 0
theorem zb_t {p : Prop} [Decidable p] (h : p) : zb p = 1 := if_pos h
theorem zb_f {p : Prop} [Decidable p] (h : ¬ p) : zb p = 0 := if_neg h
theorem zb_t' {p : Prop} [Decidable p] (h : p) : (1 : Int32) = zb p := (if_pos h).symm
theorem zb_f' {p : Prop} [Decidable p] (h : ¬ p) : (0 : Int32) = zb p := (if_neg h).symm
theorem zb_0 {p : Prop} [Decidable p] : zb p = 0 ↔ ¬ p := by
  unfold zb
  split
  · simp_all
  · simp_all
theorem zb_1 {p : Prop} [Decidable p] : zb p = 1 ↔ p := by
  unfold zb
  split
  · simp_all
  · simp_all
theorem zb_and1 {p : Prop} [Decidable p] : zb p &&& 1 = zb p := by
  unfold zb
  split <;> decide
theorem zb_c {p q : Prop} [Decidable p] [Decidable q] (h : p ↔ q) : zb p = zb q := by
  unfold zb
  by_cases hp : p
  · rw [if_pos hp, if_pos (h.mp hp)]
  · rw [if_neg hp, if_neg (fun z => hp (h.mpr z))]
def zrT : List (List (Option Nat)) := [[some 1, some 3, some 16, some 25, some 26, some 35, some 44, some 45, none, some 46, none, some 95, some 114, some 131, some 147, some 163, some 164, some 165], [none, none, none, none, some 2], [], [some 4, some 6, some 8, some 10, some 12, some 14], [none, some 5], [], [none, some 7], [], [none, some 9], [], [none, some 11], [], [none, some 13], [], [none, some 15], [], [some 17, some 19, some 21, some 23], [none, some 18], [], [none, some 20], [], [none, some 22], [], [none, some 24], [], [], [none, none, none, some 27, some 28, some 29, some 30, some 31, some 32, some 33, some 34], [], [], [], [], [], [], [], [], [none, none, none, some 36, some 37, some 38, some 39, some 40, some 41, some 42, some 43], [], [], [], [], [], [], [], [], [], [], [some 47, some 51, some 55, some 59, some 63, some 67, some 71, some 75, some 79, some 83, some 87, some 91], [some 48, some 49, some 50], [], [], [], [some 52, some 53, some 54], [], [], [], [some 56, some 57, some 58], [], [], [], [some 60, some 61, some 62], [], [], [], [some 64, some 65, some 66], [], [], [], [some 68, some 69, some 70], [], [], [], [some 72, some 73, some 74], [], [], [], [some 76, some 77, some 78], [], [], [], [some 80, some 81, some 82], [], [], [], [some 84, some 85, some 86], [], [], [], [some 88, some 89, some 90], [], [], [], [some 92, some 93, some 94], [], [], [], [some 96, some 99, some 102, some 105, some 108, some 111], [some 97, some 98], [], [], [some 100, some 101], [], [], [some 103, some 104], [], [], [some 106, some 107], [], [], [some 109, some 110], [], [], [some 112, some 113], [], [], [none, some 115, none, some 124, some 125, some 126, some 127, some 128, some 129, none, some 130], [some 116, some 117, some 118, some 119, some 120, some 121, some 122, some 123], [], [], [], [], [], [], [], [], [], [], [], [], [], [], [], [none, none, some 132, some 133, some 134, some 135, some 136, some 137, some 138, some 139, some 140, some 141, some 142, some 143, some 144, some 145, some 146], [], [], [], [], [], [], [], [], [], [], [], [], [], [], [], [some 148, some 149, none, none, some 150, some 151, some 152, some 161, some 162], [], [], [], [], [some 153, some 154, some 155, some 156, some 157, some 158, some 159, some 160], [], [], [], [], [], [], [], [], [], [], [], [], []]
theorem nI_mul (a b : Nat) : nI a * nI b = nI (a * b) := (Int32.ofNat_mul a b).symm
theorem nI_addE {x y : Int32} {a b : Nat} (h : x = nI a) (h2 : y = nI b) : x + y = nI (a + b) := by rw [h, h2, nI_add]
theorem nI_mulE {x y : Int32} {a b : Nat} (h : x = nI a) (h2 : y = nI b) : x * y = nI (a * b) := by rw [h, h2, nI_mul]
theorem nI_subE {x y : Int32} {a b : Nat} (hb : b ≤ a) (h : x = nI a) (h2 : y = nI b) : x - y = nI (a - b) := by
  rw [h, h2]
  obtain ⟨c, rfl⟩ : ∃ c, a = b + c := ⟨a - b, by omega⟩
  rw [Nat.add_sub_cancel_left, ← nI_add, Int32.add_comm, Int32.add_sub_cancel]
def zref (k j : Nat) : Option Nat := (zrT.getD k []).getD j none
/-- the references stand, but for the reader's -/
def zWf (w : zW) : Prop := ∀ k j, k ≠ 25 → w.2.2 k j = zref k j
theorem zWf_i {w : zW} {k j : Nat} {x : Int32} (h : zWf w) : zWf (zsi w k j x) := h
theorem zWf_l {w : zW} {k j : Nat} {x : Int64} (h : zWf w) : zWf (zsl w k j x) := h
theorem zWf_of {w w' : zW} (h : zWf w) (e : w'.2.2 = w.2.2) : zWf w' := fun k j hk => by rw [e]; exact h k j hk
theorem zsi_1 {w : zW} {k j : Nat} {x : Int32} {a i : Nat} : (zsi w k j x).1 a i = if a = k ∧ i = j then x else w.1 a i := rfl
theorem zsi_2 {w : zW} {k j : Nat} {x : Int32} : (zsi w k j x).2 = w.2 := rfl
theorem zsl_1 {w : zW} {k j : Nat} {x : Int64} : (zsl w k j x).1 = w.1 := rfl
theorem zsl_2 {w : zW} {k j : Nat} {x : Int64} {a i : Nat} : (zsl w k j x).2.1 a i = if a = k ∧ i = j then x else w.2.1 a i := rfl
theorem zsl_3 {w : zW} {k j : Nat} {x : Int64} : (zsl w k j x).2.2 = w.2.2 := rfl
theorem zsr_1 {w : zW} {k j : Nat} {x : Option Nat} : (zsr w k j x).1 = w.1 := rfl
theorem zsr_2 {w : zW} {k j : Nat} {x : Option Nat} : (zsr w k j x).2.1 = w.2.1 := rfl
theorem zsr_3 {w : zW} {k j : Nat} {x : Option Nat} {a i : Nat} : (zsr w k j x).2.2 a i = if a = k ∧ i = j then x else w.2.2 a i := rfl
/-- a row of numbers: its cell, its places' cell, how many they are -/
def zRw (a L : Nat) : Prop := (a < 165 ∧ zsh a = (0, 8, 0) ∧ zref a 1 = some (a + 1) ∧ zsh (a + 1) = (1, 0, L) ∧ a ≠ 25) ∧ (L = 40 ∨ L = 80)
theorem zRw_r : ∀ r, r < 6 → (4 + 2 * r < 165 ∧ zsh (4 + 2 * r) = (0, 8, 0) ∧ zref (4 + 2 * r) 1 = some (4 + 2 * r + 1) ∧ zsh (4 + 2 * r + 1) = (1, 0, 40) ∧ 4 + 2 * r ≠ 25) := by decide +kernel
theorem zRw_t : ∀ t, t < 4 → (17 + 2 * t < 165 ∧ zsh (17 + 2 * t) = (0, 8, 0) ∧ zref (17 + 2 * t) 1 = some (17 + 2 * t + 1) ∧ zsh (17 + 2 * t + 1) = (1, 0, 80) ∧ 17 + 2 * t ≠ 25) := by decide +kernel
