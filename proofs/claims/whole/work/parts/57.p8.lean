/-! destroy; all calls of the system -/
def dkf (g : Nat → Int32) (e k : Nat) : Nat → Int32 := fun r => if r < k then (if g r = nI (2 + e) then 0 else if g r = nI (5 + e) then 1 else g r) else g r
def pkf (g : Nat → Int32) (e k : Nat) : Nat → Int32 := fun r => if r < k ∧ g r = nI (1 + e) then 0 else g r
theorem dkf_at (g : Nat → Int32) (e k : Nat) : dkf g e k k = g k := by unfold dkf; rw [if_neg (by omega)]
theorem pkf_at (g : Nat → Int32) (e k : Nat) : pkf g e k k = g k := by unfold pkf; rw [if_neg (by omega)]
theorem dkf_s (g : Nat → Int32) (e k : Nat) (x : Int32) (hx : x = (if g k = nI (2 + e) then 0 else if g k = nI (5 + e) then 1 else g k)) : upd (dkf g e k) k x = dkf g e (k + 1) := by
  funext j
  by_cases h : j = k
  · subst h
    rw [upd_same]
    unfold dkf
    rw [if_pos (by omega)]
    exact hx
  · rw [upd_ne _ _ h]
    unfold dkf
    by_cases h2 : j < k
    · rw [if_pos h2, if_pos (show j < k + 1 by omega)]
    · rw [if_neg h2, if_neg (show ¬ j < k + 1 by omega)]
theorem dkf_k (g : Nat → Int32) (e k : Nat) (h2 : ¬ g k = nI (2 + e)) (h5 : ¬ g k = nI (5 + e)) : dkf g e k = dkf g e (k + 1) := by
  rw [← dkf_s g e k (g k) (by rw [if_neg h2, if_neg h5])]
  funext j
  by_cases h : j = k
  · subst h; rw [upd_same, dkf_at]
  · rw [upd_ne _ _ h]
theorem pkf_s (g : Nat → Int32) (e k : Nat) (h : g k = nI (1 + e)) : upd (pkf g e k) k 0 = pkf g e (k + 1) := by
  funext j
  by_cases hj : j = k
  · subst hj
    rw [upd_same]
    unfold pkf
    rw [if_pos ⟨by omega, h⟩]
  · rw [upd_ne _ _ hj]
    unfold pkf
    by_cases h2 : j < k ∧ g j = nI (1 + e)
    · rw [if_pos h2, if_pos ⟨by omega, h2.2⟩]
    · rw [if_neg h2, if_neg (fun q => h2 ⟨by omega, q.2⟩)]
theorem pkf_k (g : Nat → Int32) (e k : Nat) (h : ¬ g k = nI (1 + e)) : pkf g e k = pkf g e (k + 1) := by
  funext j
  unfold pkf
  by_cases h2 : j < k ∧ g j = nI (1 + e)
  · rw [if_pos h2, if_pos ⟨by omega, h2.2⟩]
  · rw [if_neg h2, if_neg (fun q => by
      by_cases hj : j = k
      · subst hj; exact h q.2
      · exact h2 ⟨by omega, q.2⟩)]
def a2s (a : eS) (m : Nat → Int32) (d : Nat) (g : Nat → Int32) : eS := up (up a 0 m) d g
theorem a2_wr (a : eS) (m : Nat → Int32) (d : Nat) (g : Nat → Int32) (k : Nat) (x : Int32) : wr (a2s a m d g) d k x = a2s a m d (upd g k x) := by
  funext c
  unfold a2s
  by_cases h : c = d
  · subst h; rw [wr_same, up_same, up_same]
  · rw [wr_ne _ _ _ h, up_ne _ _ h, up_ne _ _ h]
theorem a2_up (a : eS) (m m' : Nat → Int32) (d : Nat) (g : Nat → Int32) (hd : d ≠ 0) : up (a2s a m d g) 0 m' = a2s a m' d g := by
  funext c
  unfold a2s
  by_cases h : c = 0
  · subst h; rw [up_same, up_ne _ _ (Ne.symm hd), up_same]
  · rw [up_ne _ _ h]
    by_cases h2 : c = d
    · subst h2; rw [up_same, up_same]
    · rw [up_ne _ _ h2, up_ne _ _ h2, up_ne _ _ h, up_ne _ _ h]
theorem a2_0 (a : eS) (m : Nat → Int32) (d : Nat) (g : Nat → Int32) (hd : d ≠ 0) : a2s a m d g 0 = m := by
  unfold a2s; rw [up_ne _ _ (Ne.symm hd), up_same]
theorem a2_d (a : eS) (m : Nat → Int32) (d : Nat) (g : Nat → Int32) : a2s a m d g d = g := by
  unfold a2s; rw [up_same]
def dw (s : eS) (e : Nat) : eS := wr (wr (wr (wr (wr s 3 e 0) 4 e 0) 5 e 0) 6 (2 * e) 0) 6 (2 * e + 1) 0
def dm (s : eS) (e : Nat) : eS := wr (wr (wr s 3 e 0) 9 (2 * e) 0) 9 (2 * e + 1) 0
theorem de_loop {a b : eS} {e : Nat} (h : Rel a b) (he : e < 3) : ∀ (n k fl fl' : Nat) (m : Nat → Int32), k + n = 16 → n < fl → n < fl' → ∃ m', f_W_destroy_34 fl (nI e) (nI k) (a2s a m 1 (dkf (a 1) e k)) = some (0, dw (a2s a m' 1 (dkf (a 1) e 16)) e) ∧ f_M_destroy_2 fl' (nI e) (nI k) (a2s b m 2 (pkf (b 2) e k)) = some ((), dm (a2s b m' 2 (pkf (b 2) e 16)) e) := by
  have hK := h.2.2.2.2.2.1
  intro n
  induction n with
  | zero =>
    intro k fl fl' m hk hf hf'
    obtain ⟨fl, rfl⟩ : ∃ q, fl = q + 1 := ⟨fl - 1, by omega⟩
    obtain ⟨fl', rfl⟩ : ∃ q, fl' = q + 1 := ⟨fl' - 1, by omega⟩
    have k16 : k = 16 := by omega
    subst k16
    refine ⟨m, ?_, ?_⟩
    · rw [f_W_destroy_34, if_pos (show (16 : Int32) ≤ nI 16 by decide), ix_nI he (by decide), cl_nI (by omega), pV_become, bnd_s]; rfl
    · rw [f_M_destroy_2, if_pos (show (16 : Int32) ≤ nI 16 by decide), ix_nI he (by decide), nm_s, lit_mul (N := 2) (n := 2) rfl, ix_nI (by omega) (by decide), nm_s, nI_1, ix_nI (by omega) (by decide), nm_s, cl_nI (show e < 2 ^ 31 by omega), cl_nI (show 2 * e < 2 ^ 31 by omega), cl_nI (show 2 * e + 1 < 2 ^ 31 by omega)]; rfl
  | succ n ih =>
    intro k fl fl' m hk hf hf'
    obtain ⟨fl, rfl⟩ : ∃ q, fl = q + 1 := ⟨fl - 1, by omega⟩
    obtain ⟨fl', rfl⟩ : ∃ q, fl' = q + 1 := ⟨fl' - 1, by omega⟩
    have h16 : ¬ (16 : Int32) ≤ nI k := nI_ge (b := 16) (by omega) (by decide)
    have k16 : k < 16 := by omega
    obtain ⟨kk, k7, k1, k2, k3, k4, k5⟩ := hK k k16
    have hkd : f_M_kind (nI k) (a2s b m 2 (pkf (b 2) e k)) = some (a 1 k, a2s b m 2 (pkf (b 2) e k)) := by
      refine pM_kind k16 ?_
      show KR (a 1) (b 1) (pkf (b 2) e k) (b 3) (b 4) (b 5) k
      exact ⟨kk, k7, k1, k2, (pkf_at _ _ _).trans k3, k4, k5⟩
    rw [f_W_destroy_34, if_neg h16, ix_nI k16 (by decide), cl_nI (by omega), a2_d, dkf_at, lit_add (N := 2) (n := 2) rfl, f_M_destroy_2, if_neg h16, hkd, bnd_s, lit_add (N := 2) (n := 2) rfl]
    by_cases c2 : a 1 k = nI (2 + e)
    · have kk2 : kk = 2 + e := (nI_eq (by omega) (by omega)).mp (k1.symm.trans c2)
      have np : ¬ b 2 k = nI (1 + e) := by
        rw [k3, if_neg (by omega)]
        exact fun q => nI_ne (a := 0) (by decide) (by omega) (by omega) q
      rw [if_pos c2, if_pos c2, pW_free k16, bnd_s, nm_s, nI_1, pM_wipe k16, bnd_s, a2_0 _ _ _ _ (by decide), a2_0 _ _ _ _ (by decide), a2_up _ _ _ _ _ (by decide), a2_up _ _ _ _ _ (by decide), a2_wr, ix_nI k16 (by decide), cl_nI (by omega), a2_d, pkf_at, lit_add (N := 1) (n := 1) rfl, if_neg np, nm_s, dkf_s _ _ _ _ (by rw [if_pos c2]), pkf_k _ _ _ np]
      exact ih (k + 1) fl fl' _ (by omega) (by omega) (by omega)
    · rw [if_neg c2, if_neg c2, ix_nI k16 (by decide), lit_add (N := 5) (n := 5) rfl, ix_nI k16 (by decide), ix_nI k16 (by decide), cl_nI (by omega), a2_d, pkf_at, lit_add (N := 1) (n := 1) rfl]
      by_cases c5 : a 1 k = nI (5 + e)
      · have kk5 : kk = 5 + e := (nI_eq (by omega) (by omega)).mp (k1.symm.trans c5)
        have hp : b 2 k = nI (1 + e) := by rw [k3, if_pos (by omega), kk5, show 5 + e - 4 = 1 + e by omega]
        rw [if_pos c5, nm_s, nm_s, nI_1, a2_wr, if_pos hp, ix_nI k16 (by decide), nm_s, nm_s, a2_wr, dkf_s _ _ _ _ (by rw [if_neg c2, if_pos c5]), pkf_s _ _ _ hp]
        exact ih (k + 1) fl fl' _ (by omega) (by omega) (by omega)
      · have np : ¬ b 2 k = nI (1 + e) := by
          rw [k3]
          by_cases q5 : 5 ≤ kk
          · rw [if_pos q5]
            refine nI_ne (by omega) (by omega) (fun q => c5 ?_)
            rw [k1, show kk = 5 + e by omega]
          · rw [if_neg q5]
            exact fun q => nI_ne (a := 0) (by decide) (by omega) (by omega) q
        rw [if_neg c5, nm_s, nI_1, if_neg np, nm_s, dkf_k _ _ _ c2 c5, pkf_k _ _ _ np]
        exact ih (k + 1) fl fl' _ (by omega) (by omega) (by omega)
theorem rel_destroy {a b : eS} {e : Nat} {m : Nat → Int32} (h : Rel a b) (hw : b 13 1 = 6) (he : e < 3) : Rel (dw (a2s a m 1 (dkf (a 1) e 16)) e) (dm (a2s b m 2 (pkf (b 2) e 16)) e) := by
  obtain ⟨hG, hR, hS, hX, hW, hK, hE, hT⟩ := h
  have g3 : upd (a 3) e 0 = upd (b 3) e 0 := congrArg (fun m => upd m e 0) hG.2.1
  have g6 : upd (upd (a 6) (2 * e) 0) (2 * e + 1) 0 = upd (upd (b 9) (2 * e) 0) (2 * e + 1) 0 := congrArg (fun m => upd (upd m (2 * e) 0) (2 * e + 1) 0) hG.2.2.1
  refine ⟨⟨rfl, g3, g6, hG.2.2.2⟩, ((((((hR.up (by decide)).up (by decide)).wr (by decide)).wr (by decide)).wr (by decide)).wr (by decide)).wr (by decide), hS, hX, ?_, fun r hr => ?_, fun e' he' => ?_, fun t ht => ?_⟩
  · obtain ⟨c, h6, w1, w2, w3⟩ := hW
    refine ⟨c, h6, w1, w2, fun q => ?_⟩
    have : c = 6 := (nI_eq (by omega) (by decide)).mp (w1.symm.trans hw)
    omega
  · show KR (dkf (a 1) e 16) (b 1) (pkf (b 2) e 16) (upd (b 3) e 0) (b 4) (b 5) r
    obtain ⟨k, k7, k1, k2, k3, k4, k5⟩ := hK r hr
    have io : ∀ e', e' ≠ e → inB (upd (b 3) e 0) (b 4) (b 5) e' r = inB (b 3) (b 4) (b 5) e' r := by
      intro e' ee
      unfold inB
      rw [upd_ne _ _ ee]
    have ie : inB (upd (b 3) e 0) (b 4) (b 5) e r = false := by
      unfold inB
      rw [upd_same]
      simp
    by_cases c2 : k = 2 + e
    · subst c2
      refine ⟨0, by decide, ?_, fun e' he' => ?_, ?_, ?_, fun q => absurd q (by decide)⟩
      · unfold dkf; rw [if_pos hr, if_pos k1]; rfl
      · by_cases ee : e' = e
        · subst ee; rw [ie]; exact ⟨fun q => (by cases q), fun q => by omega⟩
        · rw [io e' ee, k2 e' he']; omega
      · unfold pkf
        rw [k3, if_neg (show ¬ 5 ≤ 2 + e by omega), if_neg (show ¬ 5 ≤ 0 by decide)]
        split <;> rfl
      · rw [k4, if_neg (by omega), if_neg (by decide)]
    · by_cases c5 : k = 5 + e
      · subst c5
        have n2 : ¬ a 1 r = nI (2 + e) := by rw [k1]; exact nI_ne (by omega) (by omega) (by omega)
        refine ⟨1, by decide, ?_, fun e' he' => ?_, ?_, ?_, fun q => absurd q (by decide)⟩
        · unfold dkf; rw [if_pos hr, if_neg n2, if_pos k1]; rfl
        · by_cases ee : e' = e
          · subst ee; rw [ie]; exact ⟨fun q => (by cases q), fun q => by omega⟩
          · rw [io e' ee, k2 e' he']; omega
        · unfold pkf
          rw [if_pos ⟨hr, by rw [k3, if_pos (by omega), show 5 + e - 4 = 1 + e by omega]⟩]; rfl
        · rw [k4, if_pos (Or.inr (by omega)), if_pos (Or.inl rfl)]
      · have n2 : ¬ a 1 r = nI (2 + e) := by rw [k1]; exact nI_ne (by omega) (by omega) c2
        have n5 : ¬ a 1 r = nI (5 + e) := by rw [k1]; exact nI_ne (by omega) (by omega) c5
        refine ⟨k, k7, ?_, fun e' he' => ?_, ?_, k4, fun q => ?_⟩
        · unfold dkf; rw [if_pos hr, if_neg n2, if_neg n5]; exact k1
        · by_cases ee : e' = e
          · subst ee; rw [ie]; exact ⟨fun q => (by cases q), fun q => absurd q c2⟩
          · rw [io e' ee]; exact k2 e' he'
        · unfold pkf
          rw [if_neg]
          · exact k3
          · rintro ⟨-, q⟩
            rw [k3] at q
            by_cases q5 : 5 ≤ k
            · rw [if_pos q5] at q
              exact c5 (by have := (nI_eq (by omega) (by omega)).mp q; omega)
            · rw [if_neg q5] at q
              exact nI_ne (a := 0) (by decide) (by omega) (by omega) q
        · rw [upd_ne _ _ (show k - 5 ≠ e by omega)]; exact k5 q
  · show ER (upd (a 4) e 0) (upd (a 5) e 0) (upd (b 3) e 0) (b 6) (b 7) (b 8) (upd (upd (b 9) (2 * e) 0) (2 * e + 1) 0) e'
    by_cases ee : e' = e
    · subst ee
      have q1 : upd (upd (b 9) (2 * e') 0) (2 * e' + 1) 0 (2 * e' + 1) = 0 := upd_same _ _ _
      refine ⟨0, by decide, upd_same _ _ _, fun _ => ⟨upd_same _ _ _, ?_, q1⟩, fun q => absurd rfl q, fun q => absurd q1 q⟩
      rw [upd_ne _ _ (by omega), upd_same]
    · obtain ⟨st', h3', e3', z0', z1', z2'⟩ := hE e' he'
      have q1 : upd (upd (b 9) (2 * e) 0) (2 * e + 1) 0 (2 * e') = b 9 (2 * e') := by rw [upd_ne _ _ (by omega), upd_ne _ _ (by omega)]
      have q2 : upd (upd (b 9) (2 * e) 0) (2 * e + 1) 0 (2 * e' + 1) = b 9 (2 * e' + 1) := by rw [upd_ne _ _ (by omega), upd_ne _ _ (by omega)]
      refine ⟨st', h3', (upd_ne _ _ ee).trans e3', fun q => ⟨(upd_ne _ _ ee).trans (z0' q).1, q1.trans (z0' q).2.1, q2.trans (z0' q).2.2⟩, fun q => ?_, by rw [q1, q2]; exact z2'⟩
      obtain ⟨n, ld, e8, e6, e5, h8, e4, hb1, hn⟩ := z1' q
      exact ⟨n, ld, e8, e6, (upd_ne _ _ ee).trans e5, h8, (upd_ne _ _ ee).trans e4, fun q' => by unfold thc; rw [q1, q2]; exact hb1 q', hn⟩
  · show ∃ q, q ≤ 3 ∧ upd (upd (b 9) (2 * e) 0) (2 * e + 1) 0 t = nI q
    by_cases t1 : t = 2 * e + 1
    · exact ⟨0, by decide, by rw [t1, upd_same]; rfl⟩
    · by_cases t0 : t = 2 * e
      · exact ⟨0, by decide, by rw [upd_ne _ _ t1, t0, upd_same]; rfl⟩
      · rw [upd_ne _ _ t1, upd_ne _ _ t0]; exact hT t ht
theorem a2_id (a : eS) (d : Nat) (g : Nat → Int32) (hg : g = a d) : a2s a (a 0) d g = a := by
  unfold a2s
  rw [up_id, hg, up_id]
theorem dkf_0 (g : Nat → Int32) (e : Nat) : dkf g e 0 = g := by funext r; unfold dkf; rw [if_neg (by omega)]
theorem pkf_0 (g : Nat → Int32) (e : Nat) : pkf g e 0 = g := by funext r; unfold pkf; rw [if_neg (by omega)]
theorem s_destroy {a b : eS} (h : Rel a b) (hw : b 13 1 = 6) (e y z : Int32) : Sim (f_W_destroy e a) (f_M_system 9 e y z b) := by
  unfold f_W_destroy f_W_destroy_29 f_M_system
  rw [show f_M_outside ((9 : Int32) - 1) 10 b = some (0, b) from rfl, bnd_s, if_pos rfl, show f_M_bad 9 e y z b = bnd (f_M_outside e 2 b) (fun r1 s2 => if r1 = 0 then some (0, s2) else some (1, s2)) from rfl]
  rcases rng e 3 (by decide) with he | ⟨i, hi, rfl⟩
  · rw [pW_isEnclave_n he, pM_out_n (N := 2) (n := 2) rfl (by decide) he, bnd_s, bnd_s, if_pos rfl, if_neg (by decide), bnd_s, if_neg (by decide)]; exact Sim.of h
  · rw [pW_isEnclave hi, pM_out (N := 2) (n := 2) rfl (by decide) hi, bnd_s, bnd_s, if_neg (by decide), if_pos rfl, bnd_s, if_pos rfl, show f_M_wrongState 9 (nI i) y b = ix (nI i) 3 (if b 3 (Int32.toNatClampNeg (nI i)) = 0 then some (1, b) else ix (nI i) 3 (if b 3 (Int32.toNatClampNeg (nI i)) = 2 then some (1, b) else some (0, b))) from rfl, ix_nI hi (by decide), ix_nI hi (by decide), ix_nI hi (by decide), cl_nI (by omega), nm_s, h.1.2.1]
    by_cases hs : b 3 i = 0
    · rw [if_pos hs, if_pos hs, bnd_s, if_neg (by decide)]; exact Sim.of h
    · rw [if_neg hs, if_neg hs]
      by_cases hs2 : b 3 i = 2
      · rw [if_pos hs2, if_pos hs2, bnd_s, if_neg (by decide)]; exact Sim.of h
      · rw [if_neg hs2, if_neg hs2, bnd_s, if_pos rfl, show f_M_taken 9 (nI i) y z b = some (0, b) from rfl, bnd_s, if_pos rfl, show f_M_full 9 (nI i) b = some (0, b) from rfl, bnd_s, if_pos rfl, if_neg (by decide), if_neg (by decide), nm_s, show f_M_perform 9 (nI i) y z b = bnd (f_M_destroy_2 fu (nI i) (nI 0) b) (fun _ s29 => some ((), s29)) from rfl]
        obtain ⟨m', p1, p2⟩ := de_loop h hi 16 0 fu fu (a 0) rfl (by decide) (by decide)
        rw [a2_id _ _ _ (dkf_0 _ _)] at p1
        rw [h.1.1, a2_id _ _ _ (pkf_0 _ _)] at p2
        rw [p2, bnd_s, bnd_s]
        exact ⟨0, _, _, p1, rfl, rel_destroy h hw hi⟩
theorem bnd_id {ρ σ : Type} (o : Option (ρ × σ)) : (bnd o fun r s => some (r, s)) = o := by
  cases o with
  | none => rfl
  | some q => rfl
theorem s_system {a b : eS} (h : Rel a b) (hw : b 13 1 = 6) (f x y z : Int32) : Sim (f_W_systemCall f x y z a) (f_M_system f x y z b) := by
  unfold f_W_systemCall
  simp only [bnd_id]
  by_cases f1 : f = 1
  · subst f1; rw [if_pos rfl]; exact s_create h hw x y z
  rw [if_neg f1]
  by_cases f2 : f = 2
  · subst f2; rw [if_pos rfl]; exact s_load h x y z
  rw [if_neg f2]
  by_cases f3 : f = 3
  · subst f3; rw [if_pos rfl]; exact s_addThread h x y z
  rw [if_neg f3]
  by_cases f4 : f = 4
  · subst f4; rw [if_pos rfl]; exact s_seal h hw x y z
  rw [if_neg f4]
  by_cases f5 : f = 5
  · subst f5; rw [if_pos rfl]; exact s_share h x y z
  rw [if_neg f5]
  by_cases f6 : f = 6
  · subst f6; rw [if_pos rfl]; exact s_enter h x y z
  rw [if_neg f6]
  by_cases f7 : f = 7
  · subst f7; rw [if_pos rfl]; exact s_resume h x y z
  rw [if_neg f7]
  by_cases f8 : f = 8
  · subst f8; rw [if_pos rfl]; exact s_stop h hw x y z
  rw [if_neg f8]
  by_cases f9 : f = 9
  · subst f9; rw [if_pos rfl]; exact s_destroy h hw x y z
  rw [if_neg f9]
  by_cases f10 : f = 10
  · subst f10; rw [if_pos rfl]; exact s_claim h x y z
  rw [if_neg f10]
  by_cases f11 : f = 11
  · subst f11; rw [if_pos rfl]; exact s_giveUp h x y z
  rw [if_neg f11]
  unfold f_M_system
  rcases rng (f - 1) 11 (by decide) with hp | ⟨j, hj, hj2⟩
  · rw [pM_out_n (N := 10) (n := 10) rfl (by decide) hp, bnd_s, if_neg (by decide)]; exact Sim.of h
  · exfalso
    have e : f = nI (j + 1) := by
      rw [← nI_1, ← hj2]
      rw [Int32.sub_add_cancel]
    rcases (show j = 0 ∨ j = 1 ∨ j = 2 ∨ j = 3 ∨ j = 4 ∨ j = 5 ∨ j = 6 ∨ j = 7 ∨ j = 8 ∨ j = 9 ∨ j = 10 by omega) with rfl | rfl | rfl | rfl | rfl | rfl | rfl | rfl | rfl | rfl | rfl
    · exact f1 e
    · exact f2 e
    · exact f3 e
    · exact f4 e
    · exact f5 e
    · exact f6 e
    · exact f7 e
    · exact f8 e
    · exact f9 e
    · exact f10 e
    · exact f11 e
