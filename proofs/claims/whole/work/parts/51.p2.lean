/-! the relation between a state of the class (a) and a state of the reference (b) -/
def inB (b3 b4 b5 : Nat → Int32) (e r : Nat) : Bool := decide (¬ b3 e ≤ 0) && (decide (¬ nI r < b4 e) && decide (¬ b4 e + b5 e ≤ nI r))
def KR (a1 b1 b2 b3 b4 b5 : Nat → Int32) (r : Nat) : Prop := ∃ k : Nat, k ≤ 7 ∧ a1 r = nI k ∧ (∀ e, e < 3 → (inB b3 b4 b5 e r = true ↔ k = 2 + e)) ∧ b2 r = (if 5 ≤ k then nI (k - 4) else 0) ∧ b1 r = (if k = 1 ∨ 5 ≤ k then 1 else 0) ∧ (5 ≤ k → ¬ b3 (k - 5) = 0)
def mf (g : Nat → Int32) : Nat → Int32
  | 0 => 0
  | n + 1 => mixF (mf g n) (g n)
theorem mf_congr {g g' : Nat → Int32} : ∀ n, (∀ k, k < n → g k = g' k) → mf g n = mf g' n
  | 0, _ => rfl
  | n + 1, h => by rw [mf, mf, mf_congr n (fun k hk => h k (by omega)), h n (by omega)]
def thc (b9 : Nat → Int32) (e : Nat) : Nat := tc2 (b9 (2 * e)) (b9 (2 * e + 1))
def ER (a4 a5 b3 b6 b7 b8 b9 : Nat → Int32) (e : Nat) : Prop := ∃ st : Nat, st ≤ 3 ∧ b3 e = nI st ∧ (st = 0 → a4 e = 0 ∧ b9 (2 * e) = 0 ∧ b9 (2 * e + 1) = 0) ∧ (st ≠ 0 → ∃ n ld : Nat, b8 e = nI n ∧ b6 e = nI ld ∧ a5 e = nI ld ∧ ld ≤ 8 ∧ a4 e = mf (fun k => b7 (160 * e + k)) n ∧ (st = 1 → n ≤ 3 + 18 * ld + 2 * thc b9 e) ∧ n ≤ 152) ∧ (¬ b9 (2 * e + 1) = 0 → ¬ b9 (2 * e) = 0)
def rG (a0 a3 a6 a7 a8 b0 b3 b9 b10 b12 : Nat → Int32) : Prop := a0 = b0 ∧ a3 = b3 ∧ a6 = b9 ∧ a7 = b10 ∧ a8 = b12
def rR (a : eS) (b11 : Nat → Int32) : Prop := (∀ c, c < 7 → ∀ k, k < 8 → a (10 + c) k = b11 (8 * c + k)) ∧ ∀ c, c < 7 → b11 (8 * c) = 0
def rS (a9 b13 : Nat → Int32) : Prop := a9 0 = b13 0 ∧ a9 1 = b13 2 ∧ (b13 2 = 0 ∨ b13 2 = 1) ∧ a9 3 = b13 3 ∧ a9 4 = b13 4
def rX (a2 b13 : Nat → Int32) : Prop := a2 0 = b13 5 ∧ a2 1 = b13 6 ∧ a2 2 = b13 7 ∧ a2 3 = b13 8 ∧ a2 4 = b13 9
def rW (a9 b3 b9 b13 : Nat → Int32) : Prop := ∃ c : Nat, c ≤ 6 ∧ b13 1 = nI c ∧ a9 2 = (if c = 6 then (-1 : Int32) else nI c) ∧ (c < 6 → b3 (c / 2) = 2 ∧ ¬ b9 c = 0)
def rK (a1 b1 b2 b3 b4 b5 : Nat → Int32) : Prop := ∀ r, r < 16 → KR a1 b1 b2 b3 b4 b5 r
def rE (a4 a5 b3 b6 b7 b8 b9 : Nat → Int32) : Prop := ∀ e, e < 3 → ER a4 a5 b3 b6 b7 b8 b9 e
def rT (b9 : Nat → Int32) : Prop := ∀ t, t < 6 → ∃ q : Nat, q ≤ 3 ∧ b9 t = nI q
def Rel (a b : eS) : Prop := rG (a 0) (a 3) (a 6) (a 7) (a 8) (b 0) (b 3) (b 9) (b 10) (b 12) ∧ rR a (b 11) ∧ rS (a 9) (b 13) ∧ rX (a 2) (b 13) ∧ rW (a 9) (b 3) (b 9) (b 13) ∧ rK (a 1) (b 1) (b 2) (b 3) (b 4) (b 5) ∧ rE (a 4) (a 5) (b 3) (b 6) (b 7) (b 8) (b 9) ∧ rT (b 9)
def Sim (x y : Option (Int32 × eS)) : Prop := ∃ (r : Int32) (a' b' : eS), x = some (r, a') ∧ y = some (r, b') ∧ Rel a' b'
def SimU (x y : Option (Unit × eS)) : Prop := ∃ (a' b' : eS), x = some ((), a') ∧ y = some ((), b') ∧ Rel a' b'
theorem Sim.of {a b : eS} {r : Int32} (h : Rel a b) : Sim (some (r, a)) (some (r, b)) := ⟨r, a, b, rfl, rfl, h⟩
theorem SimU.of {a b : eS} (h : Rel a b) : SimU (some ((), a)) (some ((), b)) := ⟨a, b, rfl, rfl, h⟩
theorem Sim.bnd {x y : Option (Int32 × eS)} {k k' : Int32 → eS → Option (Int32 × eS)} (h : Sim x y) (hk : ∀ r a b, Rel a b → Sim (k r a) (k' r b)) : Sim (bnd x k) (bnd y k') := by
  obtain ⟨r, a, b, rfl, rfl, h⟩ := h
  exact hk r a b h
theorem SimU.bnd {x y : Option (Unit × eS)} {k k' : Unit → eS → Option (Unit × eS)} (h : SimU x y) (hk : ∀ a b, Rel a b → SimU (k () a) (k' () b)) : SimU (bnd x k) (bnd y k') := by
  obtain ⟨a, b, rfl, rfl, h⟩ := h
  exact hk a b h
theorem rR.wr {a : eS} {b11 : Nat → Int32} {d i : Nat} {x : Int32} (h : rR a b11) (hd : d < 10) : rR (wr a d i x) b11 :=
  ⟨fun c hc k hk => by rw [wr_ne _ _ _ (by omega)]; exact h.1 c hc k hk, h.2⟩
theorem rR.up {a : eS} {b11 : Nat → Int32} {d : Nat} {g : Nat → Int32} (h : rR a b11) (hd : d < 10) : rR (up a d g) b11 :=
  ⟨fun c hc k hk => by rw [up_ne _ _ (by omega)]; exact h.1 c hc k hk, h.2⟩
theorem pM_kind_it {e r fl : Nat} {b : eS} (he : e < 3) : f_M_kind_2 (fl + 1) (nI r) (nI e) b = if inB (b 3) (b 4) (b 5) e r = true then some (nI (2 + e), b) else f_M_kind_2 fl (nI r) (nI (e + 1)) b := by
  have h3 : ¬ (3 : Int32) ≤ nI e := nI_ge (b := 3) he (by decide)
  have h2e : (2 : Int32) + nI e = nI (2 + e) := nI_add 2 e
  rw [f_M_kind_2, if_neg h3]
  simp only [ix_nI he (show 3 < 2 ^ 31 by decide), cl_nI (show e < 2 ^ 31 by omega), nm_s, nI_1, inB, h2e]
  by_cases h1 : b 3 e ≤ 0
  · simp [h1]
  · by_cases h2 : nI r < b 4 e
    · simp [h1, h2]
    · by_cases h4 : b 4 e + b 5 e ≤ nI r
      · simp [h1, h2, h4]
      · simp [h1, h2, h4]
theorem pM_kind {r : Nat} {a1 : Nat → Int32} {b : eS} (hr : r < 16) (h : KR a1 (b 1) (b 2) (b 3) (b 4) (b 5) r) : f_M_kind (nI r) b = some (a1 r, b) := by
  obtain ⟨k, hk7, hk, hin, h2, h1, -⟩ := h
  have e0 : f_M_kind (nI r) b = f_M_kind_2 (1996 + 1 + 1 + 1 + 1) (nI r) (nI 0) b := rfl
  rw [e0, pM_kind_it (by decide), pM_kind_it (by decide), pM_kind_it (by decide), hk]
  by_cases c0 : inB (b 3) (b 4) (b 5) 0 r = true
  · rw [if_pos c0, (hin 0 (by decide)).mp c0]
  · rw [if_neg c0]
    by_cases c1 : inB (b 3) (b 4) (b 5) (0 + 1) r = true
    · rw [if_pos c1, (hin 1 (by decide)).mp c1]
    · rw [if_neg c1]
      by_cases c2 : inB (b 3) (b 4) (b 5) (0 + 1 + 1) r = true
      · rw [if_pos c2, (hin 2 (by decide)).mp c2]
      · rw [if_neg c2]
        have n2 : k ≠ 2 := fun q => c0 ((hin 0 (by decide)).mpr (by omega))
        have n3 : k ≠ 3 := fun q => c1 ((hin 1 (by decide)).mpr (by omega))
        have n4 : k ≠ 4 := fun q => c2 ((hin 2 (by decide)).mpr (by omega))
        rw [f_M_kind_2, if_pos (show (3 : Int32) ≤ nI (0 + 1 + 1 + 1) by decide)]
        simp only [ix_nI hr (show 16 < 2 ^ 31 by decide), cl_nI (show r < 2 ^ 31 by omega), h2, h1]
        rcases (show k = 0 ∨ k = 1 ∨ k = 5 ∨ k = 6 ∨ k = 7 by omega) with rfl | rfl | rfl | rfl | rfl <;> rfl
/-- who may use which kind -/
def sysU (k : Int32) : Int32 := if k = 1 then 1 else if k < 5 then 0 else 1
def encU (e k : Int32) : Int32 := if k = 2 + e then 1 else if k = 5 + e then 1 else 0
theorem sysU_01 (k : Int32) : sysU k = 0 ∨ sysU k = 1 := by unfold sysU; split; exact Or.inr rfl; split; exact Or.inl rfl; exact Or.inr rfl
theorem encU_01 (e k : Int32) : encU e k = 0 ∨ encU e k = 1 := by unfold encU; split; exact Or.inr rfl; split; exact Or.inr rfl; exact Or.inl rfl
theorem pW_sys_n {p : Int32} {s : eS} (h : p < 0 ∨ nI 256 ≤ p) : f_W_systemMayUse p s = some (0, s) := by
  unfold f_W_systemMayUse
  rw [pW_isAddress_n h, bnd_s, if_pos rfl]
theorem pW_sys {p : Nat} {s : eS} (h : p < 256) : f_W_systemMayUse (nI p) s = some (sysU (s 1 (p / 16)), s) := by
  unfold f_W_systemMayUse f_W_systemMayUse_29
  rw [pW_isAddress h, bnd_s, if_neg (by decide), nI_d16 (by omega), ix_nI (by omega) (by decide), nm_s, cl_nI (by omega)]
  unfold sysU
  split <;> rename_i h1
  · rfl
  · split <;> rfl
theorem pW_enc_n {e p : Int32} {s : eS} (h : p < 0 ∨ nI 256 ≤ p) : f_W_enclaveMayUse e p s = some (0, s) := by
  unfold f_W_enclaveMayUse
  rw [pW_isAddress_n h, bnd_s, if_pos rfl]
theorem pW_enc {e : Int32} {p : Nat} {s : eS} (h : p < 256) : f_W_enclaveMayUse e (nI p) s = some (encU e (s 1 (p / 16)), s) := by
  unfold f_W_enclaveMayUse f_W_enclaveMayUse_33
  rw [pW_isAddress h, bnd_s, if_neg (by decide), nI_d16 (by omega), ix_nI (by omega) (by decide), nm_s, cl_nI (by omega)]
  unfold encU
  split <;> rename_i h1
  · rfl
  · split <;> rfl
theorem pM_uses_n {c p : Int32} {s : eS} (h : p < 0 ∨ nI 256 ≤ p) : f_M_uses c p s = some (0, s) := by
  unfold f_M_uses
  rw [pM_out_n (N := 255) (n := 255) rfl (by decide) h, bnd_s, if_neg (by decide)]
theorem pM_uses {c p : Nat} {a1 : Nat → Int32} {b : eS} (hc : c ≤ 6) (h : p < 256) (hK : rK a1 (b 1) (b 2) (b 3) (b 4) (b 5)) : f_M_uses (nI c) (nI p) b = some (if c = 6 then sysU (a1 (p / 16)) else encU (nI (c / 2)) (a1 (p / 16)), b) := by
  unfold f_M_uses f_M_uses_63 f_M_uses_37
  rw [pM_out (N := 255) (n := 255) rfl (by decide) h, bnd_s, if_pos rfl, nI_d16 (by omega), pM_kind (by omega) (hK _ (by omega)), bnd_s, nm_s]
  by_cases h6 : c = 6
  · subst h6
    rw [if_pos (show nI 6 = (6 : Int32) from rfl), if_pos rfl]
    unfold sysU
    split <;> rename_i h1
    · rfl
    · split <;> rfl
  · rw [if_neg (show ¬ nI c = (6 : Int32) from nI_ne (b := 6) (by omega) (by decide) h6), if_neg h6, nI_d2 (by omega)]
    unfold encU
    split <;> rename_i h1
    · rfl
    · split <;> rfl
