/-! the meanings without the machine: numbers, leaves -/
theorem ix_nI {α : Type} {j n : Nat} {k : Option α} (h : j < n) (hn : n < 2 ^ 31) : ix (nI j) n k = k := if_neg (nI_in h hn)
theorem ix_at {α : Type} {i : Int32} {j n : Nat} {k : Option α} (e : i = nI j) (h : j < n) (hn : n < 2 ^ 31) : ix i n k = k := by rw [e]; exact ix_nI h hn
theorem cl_nI {j : Nat} (h : j < 2 ^ 31) : Int32.toNatClampNeg (nI j) = j := nI_clamp h
theorem bnd_s {ρ σ τ : Type} {r : ρ} {s : σ} {k : ρ → σ → Option τ} : bnd (some (r, s)) k = k r s := rfl
theorem nm_s {α β : Type} {a : α} {k : α → β} : nm a k = k a := rfl
theorem bz_0 {α : Type} {k : Option α} : bz 0 k = k := rfl
theorem bz_1 {α : Type} {k : Option α} : bz 1 k = k := rfl
theorem bz_01 {α : Type} {x : Int32} {k : Option α} (h : x = 0 ∨ x = 1) : bz x k = k := by
  rcases h with rfl | rfl <;> rfl
theorem nI_lit16 (r k : Nat) : nI r * (16 : Int32) + nI k = nI (16 * r + k) := by
  rw [show (16 : Int32) = nI 16 from rfl, pk_mul, nI_add, Nat.mul_comm]
theorem nI_16l (r k : Nat) : (16 : Int32) * nI r + nI k = nI (16 * r + k) := by
  rw [show (16 : Int32) = nI 16 from rfl, pk_mul, nI_add]
theorem nI_d16 {p : Nat} (h : p < 2 ^ 31) : nI p / (16 : Int32) = nI (p / 16) := by
  rw [show (16 : Int32) = nI 16 from rfl, pk_div h (by decide) (by decide)]
theorem nI_d2 {p : Nat} (h : p < 2 ^ 31) : nI p / (2 : Int32) = nI (p / 2) := by
  rw [show (2 : Int32) = nI 2 from rfl, pk_div h (by decide) (by decide)]
theorem nI_r2 {p : Nat} (h : p < 2 ^ 31) : nI p - nI p / (2 : Int32) * (2 : Int32) = nI (p % 2) := by
  rw [show (2 : Int32) = nI 2 from rfl, pk_rem h (by decide) (by decide)]
theorem nI_ne {a b : Nat} (ha : a < 2 ^ 31) (hb : b < 2 ^ 31) (h : a ≠ b) : ¬ nI a = nI b := fun q => h ((nI_eq ha hb).mp q)
theorem nI_m1 {a : Nat} (ha : a < 2 ^ 31) : ¬ nI a = (-1 : Int32) := by
  intro h
  have h1 := nI_pos ha
  rw [h] at h1
  exact h1 (by decide)
theorem wr_same (s : eS) (c i : Nat) (x : Int32) : wr s c i x c = upd (s c) i x := by unfold wr; rw [if_pos rfl]
theorem wr_ne (s : eS) {c c' : Nat} (i : Nat) (x : Int32) (h : c' ≠ c) : wr s c i x c' = s c' := by unfold wr; rw [if_neg h]
theorem upd_same (f : Nat → Int32) (i : Nat) (x : Int32) : upd f i x i = x := if_pos rfl
theorem upd_ne (f : Nat → Int32) {i j : Nat} (x : Int32) (h : j ≠ i) : upd f i x j = f j := if_neg h
def up (s : eS) (c : Nat) (g : Nat → Int32) : eS := fun c' => if c' = c then g else s c'
theorem up_same (s : eS) (c : Nat) (g : Nat → Int32) : up s c g c = g := if_pos rfl
theorem up_ne (s : eS) {c c' : Nat} (g : Nat → Int32) (h : c' ≠ c) : up s c g c' = s c' := if_neg h
/-- in a range, or out of it -/
theorem rng (x : Int32) (n : Nat) (hn : n < 2 ^ 31) : (x < 0 ∨ nI n ≤ x) ∨ ∃ j, j < n ∧ x = nI j := by
  rcases pk_ix x hn with h | h | h
  · exact Or.inl (Or.inl h)
  · exact Or.inl (Or.inr h)
  · exact Or.inr h
theorem pW_isAddress_n {p : Int32} {s : eS} (h : p < 0 ∨ nI 256 ≤ p) : f_W_isAddress p s = some (0, s) := by
  unfold f_W_isAddress f_W_isAddress_15
  by_cases h1 : p < 0
  · rw [if_pos h1]
  · rw [if_neg h1, if_pos (show (256 : Int32) ≤ p from h.resolve_left h1)]
theorem pW_isAddress {j : Nat} {s : eS} (h : j < 256) : f_W_isAddress (nI j) s = some (1, s) := by
  unfold f_W_isAddress
  rw [if_neg (nI_pos (by omega)), if_neg (show ¬ (256 : Int32) ≤ nI j from nI_ge h (by decide))]
theorem pW_isRegion_n {p : Int32} {s : eS} (h : p < 0 ∨ nI 16 ≤ p) : f_W_isRegion p s = some (0, s) := by
  unfold f_W_isRegion f_W_isRegion_14
  by_cases h1 : p < 0
  · rw [if_pos h1]
  · rw [if_neg h1, if_pos (show (16 : Int32) ≤ p from h.resolve_left h1)]
theorem pW_isRegion {j : Nat} {s : eS} (h : j < 16) : f_W_isRegion (nI j) s = some (1, s) := by
  unfold f_W_isRegion
  rw [if_neg (nI_pos (by omega)), if_neg (show ¬ (16 : Int32) ≤ nI j from nI_ge h (by decide))]
theorem pW_isEnclave_n {p : Int32} {s : eS} (h : p < 0 ∨ nI 3 ≤ p) : f_W_isEnclave p s = some (0, s) := by
  unfold f_W_isEnclave f_W_isEnclave_13
  by_cases h1 : p < 0
  · rw [if_pos h1]
  · rw [if_neg h1, if_pos (show (3 : Int32) ≤ p from h.resolve_left h1)]
theorem pW_isEnclave {j : Nat} {s : eS} (h : j < 3) : f_W_isEnclave (nI j) s = some (1, s) := by
  unfold f_W_isEnclave
  rw [if_neg (nI_pos (by omega)), if_neg (show ¬ (3 : Int32) ≤ nI j from nI_ge h (by decide))]
theorem pW_isThread_n {p : Int32} {s : eS} (h : p < 0 ∨ nI 2 ≤ p) : f_W_isThread p s = some (0, s) := by
  unfold f_W_isThread f_W_isThread_13
  by_cases h1 : p < 0
  · rw [if_pos h1]
  · rw [if_neg h1, if_pos (show (2 : Int32) ≤ p from h.resolve_left h1)]
theorem pW_isThread {j : Nat} {s : eS} (h : j < 2) : f_W_isThread (nI j) s = some (1, s) := by
  unfold f_W_isThread
  rw [if_neg (nI_pos (by omega)), if_neg (show ¬ (2 : Int32) ≤ nI j from nI_ge h (by decide))]
theorem pM_out_n {p : Int32} {n : Nat} {N : Int32} {s : eS} (hN : N = nI n) (hn : n + 1 < 2 ^ 31) (h : p < 0 ∨ nI (n + 1) ≤ p) : f_M_outside p N s = some (1, s) := by
  subst hN
  unfold f_M_outside f_M_outside_9
  by_cases h1 : p < 0
  · rw [if_pos h1]
  · rw [if_neg h1, if_neg]
    intro h2
    have h3 := h.resolve_left h1
    rw [Int32.le_iff_toInt_le] at h2 h3
    rw [nI_toInt (by omega)] at h2 h3
    omega
theorem pM_out {j n : Nat} {N : Int32} {s : eS} (hN : N = nI n) (hn : n + 1 < 2 ^ 31) (h : j < n + 1) : f_M_outside (nI j) N s = some (0, s) := by
  subst hN
  unfold f_M_outside
  rw [if_neg (nI_pos (by omega)), if_pos (nI_le (by omega) (by omega))]
def mixF (h w : Int32) : Int32 := ((h ^^^ w) * (1390208809 : Int32)) ^^^ (((Int32.toUInt32 ((h ^^^ w) * (1390208809 : Int32))) >>> ((Int32.toUInt32 (15 : Int32)) &&& Int32.toUInt32 31)).toInt32)
def macF (k m d : Int32) : Int32 := mixF (mixF (mixF k m) d) k
theorem pW_mix {h w : Int32} {s : eS} : f_W_mix h w s = some (mixF h w, s) := rfl
theorem pM_mix {h w : Int32} {s : eS} : f_M_mix h w s = some (mixF h w, s) := rfl
theorem pW_mac {m d : Int32} {s : eS} : f_W_macOf m d s = some (macF (s 9 0) m d, s) := rfl
theorem pM_mac {m d : Int32} {s : eS} : f_M_mac m d s = some (macF (s 13 0) m d, s) := rfl
theorem pV_add {e : Nat} {x : Int32} {s : eS} : f_V_add e x s = some ((), wr s 4 e (mixF (s 4 e) x)) := rfl
theorem pC_get_n {c : Nat} {k : Int32} {s : eS} (h : k < 0 ∨ nI 8 ≤ k) : f_C_get c k s = some (0, s) := by
  unfold f_C_get f_C_get_19
  by_cases h1 : k < 0
  · rw [if_pos h1]
  · rw [if_neg h1, if_pos (show (8 : Int32) ≤ k from h.resolve_left h1)]
theorem pC_get {c k : Nat} {s : eS} (h : k < 8) : f_C_get c (nI k) s = some (s (10 + c) k, s) := by
  unfold f_C_get
  rw [if_neg (nI_pos (by omega)), if_neg (show ¬ (8 : Int32) ≤ nI k from nI_ge h (by decide)), ix_nI h (by decide), cl_nI (by omega)]
theorem pC_put0 {c : Nat} {v : Int32} {s : eS} : f_C_put c 0 v s = some ((), s) := rfl
theorem pC_put {c k : Nat} {v : Int32} {s : eS} (h0 : 0 < k) (h : k < 8) : f_C_put c (nI k) v s = some ((), wr s (10 + c) k v) := by
  unfold f_C_put
  rw [if_neg (nI_nle h0 (by omega)), if_neg (show ¬ (8 : Int32) ≤ nI k from nI_ge h (by decide)), ix_nI h (by decide), nm_s, cl_nI (by omega)]
theorem pV_become {e : Nat} {x : Int32} {s : eS} : f_V_become e x s = some ((), wr (wr (wr (wr (wr s 3 e x) 4 e 0) 5 e 0) 6 (2 * e) 0) 6 (2 * e + 1) 0) := rfl
def tc2 (x y : Int32) : Nat := (if x = 0 then 0 else 1) + (if y = 0 then 0 else 1)
theorem pV_tc {e : Nat} {s : eS} : f_V_threadCount e s = some (nI (tc2 (s 6 (2 * e)) (s 6 (2 * e + 1))), s) := by
  have h : f_V_threadCount e s = (if s 6 (2 * e) = 0 then (if s 6 (2 * e + 1) = 0 then some (0, s) else some (0 + 1, s)) else (if s 6 (2 * e + 1) = 0 then some (0 + 1, s) else some (0 + 1 + 1, s))) := rfl
  rw [h]
  unfold tc2
  by_cases h1 : s 6 (2 * e) = 0 <;> by_cases h2 : s 6 (2 * e + 1) = 0 <;> simp only [h1, h2, if_true, if_false] <;> rfl
def st8 (s : eS) (c : Nat) (en ar : Int32) : eS := wr (wr (wr (wr (wr (wr (wr (wr (wr s (10 + c) 1 0) (10 + c) 2 0) (10 + c) 3 0) (10 + c) 4 0) (10 + c) 5 0) (10 + c) 6 0) (10 + c) 7 0) (10 + c) 1 ar) 8 c en
theorem pC_start {c : Nat} {en ar : Int32} {s : eS} : f_C_start c en ar s = some ((), st8 s c en ar) := rfl
/-- n places from i on are 0 -/
def wz (m : Nat → Int32) (i n : Nat) : Nat → Int32 := fun j => if i ≤ j ∧ j < i + n then 0 else m j
theorem wz_0 (m : Nat → Int32) (i : Nat) : wz m i 0 = m := by funext j; unfold wz; rw [if_neg (by omega)]
theorem wz_s (m : Nat → Int32) (i n : Nat) : wz (upd m i 0) (i + 1) n = wz m i (n + 1) := by
  funext j
  unfold wz upd
  by_cases h : j = i
  · subst h
    rw [if_neg (by omega), if_pos rfl, if_pos (by omega)]
  · by_cases h2 : i + 1 ≤ j ∧ j < i + 1 + n
    · rw [if_pos h2, if_pos (by omega)]
    · rw [if_neg h2, if_neg h, if_neg (by omega)]
theorem wr_up0 (s : eS) (i n : Nat) : up (wr s 0 i 0) 0 (wz ((wr s 0 i 0) 0) (i + 1) n) = up s 0 (wz (s 0) i (n + 1)) := by
  funext c
  unfold up
  by_cases h : c = 0
  · rw [if_pos h, if_pos h, wr_same, wz_s]
  · rw [if_neg h, if_neg h, wr_ne _ _ _ h]
theorem up_id (s : eS) (c : Nat) : up s c (s c) = s := by
  funext c'
  unfold up
  by_cases h : c' = c
  · rw [if_pos h, h]
  · rw [if_neg h]
theorem pM_wipe2 {r : Nat} (hr : r < 16) : ∀ (n k fl : Nat) (s : eS), k + n = 16 → n < fl → f_M_wipe_2 fl (nI r) (nI k) s = some ((), up s 0 (wz (s 0) (16 * r + k) n)) := by
  intro n
  induction n with
  | zero =>
    intro k fl s hk hf
    obtain ⟨fl, rfl⟩ : ∃ q, fl = q + 1 := ⟨fl - 1, by omega⟩
    rw [f_M_wipe_2, if_pos (show (16 : Int32) ≤ nI k from nI_le (a := 16) (by omega) (by omega)), wz_0, up_id]
  | succ n ih =>
    intro k fl s hk hf
    obtain ⟨fl, rfl⟩ : ∃ q, fl = q + 1 := ⟨fl - 1, by omega⟩
    rw [f_M_wipe_2, if_neg (show ¬ (16 : Int32) ≤ nI k from nI_ge (b := 16) (by omega) (by decide)), nI_16l, ix_nI (by omega) (by decide), nm_s, nm_s, nI_1, cl_nI (by omega), ih (k + 1) fl _ (by omega) (by omega), ← Nat.add_assoc, wr_up0]
theorem pM_wipe {r : Nat} (hr : r < 16) {s : eS} : f_M_wipe (nI r) s = some ((), up s 0 (wz (s 0) (16 * r) 16)) :=
  pM_wipe2 hr 16 0 fu s rfl (by decide)
theorem pW_free2 {r : Nat} (hr : r < 16) : ∀ (n k fl : Nat) (s : eS), k + n = 16 → n < fl → f_W_free_2 fl (nI r) (nI k) s = some ((), wr (up s 0 (wz (s 0) (16 * r + k) n)) 1 r 0) := by
  intro n
  induction n with
  | zero =>
    intro k fl s hk hf
    obtain ⟨fl, rfl⟩ : ∃ q, fl = q + 1 := ⟨fl - 1, by omega⟩
    rw [f_W_free_2, if_pos (show (16 : Int32) ≤ nI k from nI_le (a := 16) (by omega) (by omega)), ix_nI hr (by decide), nm_s, cl_nI (by omega), wz_0, up_id]
  | succ n ih =>
    intro k fl s hk hf
    obtain ⟨fl, rfl⟩ : ∃ q, fl = q + 1 := ⟨fl - 1, by omega⟩
    rw [f_W_free_2, if_neg (show ¬ (16 : Int32) ≤ nI k from nI_ge (b := 16) (by omega) (by decide)), nI_lit16, ix_nI (by omega) (by decide), nm_s, nm_s, nI_1, cl_nI (by omega), ih (k + 1) fl _ (by omega) (by omega), ← Nat.add_assoc, wr_up0]
theorem pW_free {r : Nat} (hr : r < 16) {s : eS} : f_W_free (nI r) s = some ((), wr (up s 0 (wz (s 0) (16 * r) 16)) 1 r 0) :=
  pW_free2 hr 16 0 fu s rfl (by decide)
