/-! leave, fault, an instruction, a step, a run -/
theorem wr_comm (s : eS) {c1 c2 : Nat} (i j : Nat) (x y : Int32) (h : c1 ≠ c2) : wr (wr s c1 i x) c2 j y = wr (wr s c2 j y) c1 i x := by
  funext c
  by_cases h1 : c = c1
  · subst h1; rw [wr_ne _ _ _ h, wr_same, wr_same, wr_ne _ _ _ h]
  · by_cases h2 : c = c2
    · subst h2; rw [wr_same, wr_ne _ _ _ h1, wr_ne _ _ _ h1, wr_same]
    · rw [wr_ne _ _ _ h2, wr_ne _ _ _ h1, wr_ne _ _ _ h1, wr_ne _ _ _ h2]
theorem wr_wr (s : eS) (c i : Nat) (x y : Int32) : wr (wr s c i x) c i y = wr s c i y := by
  funext c'
  by_cases h1 : c' = c
  · subst h1
    rw [wr_same, wr_same, wr_same]
    funext j
    by_cases h2 : j = i
    · subst h2; rw [upd_same, upd_same]
    · rw [upd_ne _ _ h2, upd_ne _ _ h2, upd_ne _ _ h2]
  · rw [wr_ne _ _ _ h1, wr_ne _ _ _ h1, wr_ne _ _ _ h1]
theorem pW_rt {a : eS} {c : Nat} (hc : c < 6) (h : a 9 2 = nI c) : f_W_runningThread a = some (c, a) := by
  unfold f_W_runningThread
  rw [h, nI_r2 (by omega), nI_d2 (by omega), ix_nI (by omega) (by decide), ix_nI (by omega) (by decide), cl_nI (by omega), cl_nI (by omega), show 2 * (c / 2) + c % 2 = c by omega]
theorem pC_put1 {c : Nat} {v : Int32} {s : eS} : f_C_put c 1 v s = some ((), wr s (10 + c) 1 v) := pC_put (k := 1) (by decide) (by decide)
theorem pC_put2 {c : Nat} {v : Int32} {s : eS} : f_C_put c 2 v s = some ((), wr s (10 + c) 2 v) := pC_put (k := 2) (by decide) (by decide)
def lvW (a : eS) (c : Nat) (ts kd v : Int32) : eS := wr (wr (wr (wr (wr (wr (wr (wr (wr a 6 c ts) 2 0 (a 2 0 + 1)) 2 1 (nI (c / 2))) 2 2 kd) 2 3 v) 2 4 (a 9 4)) 9 2 (-1)) (10 + 6) 1 kd) (10 + 6) 2 v
def lvM (b : eS) (c : Nat) (kd v : Int32) : eS := wr (wr (wr (wr (wr (wr (wr (wr b 13 5 (b 13 5 + 1)) 13 6 (nI (c / 2))) 13 7 kd) 13 8 v) 13 9 (b 13 4)) 13 1 6) 11 49 kd) 11 50 v
theorem pW_leave {a : eS} {c : Nat} {ts kd v : Int32} (hc : c < 6) (h : a 9 2 = nI c) : f_W_leave ts kd v a = some ((), lvW a c ts kd v) := by
  have z0 : Int32.toNatClampNeg 0 = 0 := by decide
  have z1 : Int32.toNatClampNeg 1 = 1 := by decide
  have z2 : Int32.toNatClampNeg 2 = 2 := by decide
  have z3 : Int32.toNatClampNeg 3 = 3 := by decide
  have z4 : Int32.toNatClampNeg 4 = 4 := by decide
  unfold f_W_leave
  rw [pW_rt hc h, bnd_s, nm_s, ix_at (i := 0) (j := 0) rfl (by decide) (by decide), ix_at (i := 0) (j := 0) rfl (by decide) (by decide), nm_s, ix_at (i := 1) (j := 1) rfl (by decide) (by decide), nm_s, ix_at (i := 2) (j := 2) rfl (by decide) (by decide), nm_s, ix_at (i := 3) (j := 3) rfl (by decide) (by decide), nm_s, ix_at (i := 4) (j := 4) rfl (by decide) (by decide), nm_s, nm_s, pC_put1, bnd_s, pC_put2, bnd_s, z0, z1, z2, z3, z4]
  have e : (wr (wr a 6 c ts) 2 0 (wr a 6 c ts 2 0 + 1)) 9 2 = nI c := h
  rw [e, nI_d2 (by omega)]
  rfl
theorem pM_leave {b : eS} {c : Nat} {kd v : Int32} (hc : c < 6) (h : b 13 1 = nI c) : f_M_leave kd v b = some ((), lvM b c kd v) := by
  have z0 : Int32.toNatClampNeg 49 = 49 := by decide
  have z1 : Int32.toNatClampNeg 50 = 50 := by decide
  unfold f_M_leave
  rw [nm_s, nm_s, nm_s, nm_s, nm_s, nm_s, ix_at (i := 49) (j := 49) rfl (by decide) (by decide), nm_s, ix_at (i := 50) (j := 50) rfl (by decide) (by decide), nm_s, z0, z1]
  have e : (wr b 13 5 (b 13 5 + 1)) 13 1 = nI c := h
  rw [e, nI_d2 (by omega)]
  rfl
theorem rel_leave {a b : eS} {c q : Nat} {kd v : Int32} (h : Rel a b) (hc : c < 6) (hw : b 13 1 = nI c) (hq : 0 < q) (hq3 : q ≤ 3) : Rel (lvW a c (nI q) kd v) (lvM (wr b 9 c (nI q)) c kd v) := by
  obtain ⟨hG, hR, hS, hX, hW, hK, hE, hT⟩ := h
  obtain ⟨c', h6, w1, w2, w3⟩ := hW
  have cc : c' = c := (nI_eq (by omega) (by omega)).mp (w1.symm.trans hw)
  subst cc
  have hE2 := rE_thr (i := c') (q := q) hc hq hq3 (w3 hc).2 hE
  have hT2 := rT_thr (i := c') (q := q) hq3 hT
  have g6 : upd (a 6) c' (nI q) = upd (b 9) c' (nI q) := congrArg (fun m => upd m c' (nI q)) hG.2.2.1
  have hR0 : rR (wr (wr (wr (wr (wr (wr (wr a 6 c' (nI q)) 2 0 (a 2 0 + 1)) 2 1 (nI (c' / 2))) 2 2 kd) 2 3 v) 2 4 (a 9 4)) 9 2 (-1)) (b 11) := ((((((hR.wr (by decide)).wr (by decide)).wr (by decide)).wr (by decide)).wr (by decide)).wr (by decide)).wr (by decide)
  have hR1 := rR_reg (c := 6) (k := 1) (v := kd) hR0 (by decide) (by decide) (by decide)
  have hR2 := rR_reg (c := 6) (k := 2) (v := v) hR1 (by decide) (by decide) (by decide)
  exact ⟨⟨hG.1, hG.2.1, g6, hG.2.2.2⟩, hR2, ⟨hS.1, hS.2.1, hS.2.2.1, hS.2.2.2.1, hS.2.2.2.2⟩, ⟨congrArg (fun x => x + 1) hX.1, rfl, rfl, rfl, hS.2.2.2.2⟩, ⟨6, by decide, rfl, rfl, fun q => absurd q (by decide)⟩, hK, hE2, hT2⟩
theorem s_fault {a b : eS} {c : Nat} {k : Int32} (h : Rel a b) (hc : c ≤ 6) (h1 : b 13 1 = nI c) (h2 : a 9 2 = if c = 6 then (-1 : Int32) else nI c) : SimU (f_W_fault k a) (f_M_fault k b) := by
  unfold f_W_fault f_M_fault
  by_cases c6 : c = 6
  · subst c6
    rw [h1, h2, if_pos rfl, if_pos rfl, if_pos (show nI 6 = (6 : Int32) from rfl)]
    exact SimU.of (rel_halt h (Or.inr rfl))
  · have h3 : a 9 2 = nI c := by rw [h2, if_neg c6]
    rw [h1, h3, if_neg (nI_m1 (by omega)), if_neg (show ¬ nI c = (6 : Int32) from nI_ne (b := 6) (by omega) (by decide) c6), ix_nI (by omega) (by decide), nm_s, cl_nI (by omega), pW_leave (by omega) h3, pM_leave (b := wr b 9 c 1) (c := c) (by omega) h1, bnd_s, bnd_s]
    exact SimU.of (rel_leave (q := 1) h (by omega) h1 (by decide) (by decide))
theorem s_use {a b : eS} {c : Nat} (h : Rel a b) (hc : c ≤ 6) (h2 : a 9 2 = if c = 6 then (-1 : Int32) else nI c) (p : Int32) : ∃ u : Int32, f_W_runnerMayUse p a = some (u, a) ∧ f_M_uses (nI c) p b = some (u, b) ∧ (¬ u = 0 → ∃ j, j < 256 ∧ p = nI j) := by
  have hK := h.2.2.2.2.2.1
  unfold f_W_runnerMayUse
  rw [h2]
  rcases rng p 256 (by decide) with hp | ⟨j, hj, rfl⟩
  · refine ⟨0, ?_, pM_uses_n hp, fun q => absurd rfl q⟩
    by_cases c6 : c = 6
    · subst c6
      rw [if_pos rfl, if_pos rfl, pW_sys_n hp, bnd_s, bz_0]
    · rw [if_neg c6, if_neg (nI_m1 (by omega)), pW_enc_n hp, bnd_s, bz_0]
  · rw [pM_uses hc hj hK]
    by_cases c6 : c = 6
    · subst c6
      refine ⟨sysU (a 1 (j / 16)), ?_, by rw [if_pos rfl], fun _ => ⟨j, hj, rfl⟩⟩
      rw [if_pos rfl, if_pos rfl, pW_sys hj, bnd_s, bz_01 (sysU_01 _)]
    · refine ⟨encU (nI (c / 2)) (a 1 (j / 16)), ?_, by rw [if_neg c6], fun _ => ⟨j, hj, rfl⟩⟩
      rw [if_neg c6, if_neg (nI_m1 (by omega)), nI_d2 (by omega), pW_enc hj, bnd_s, bz_01 (encU_01 _ _)]
theorem pM_put {b : eS} {c j : Nat} {v : Int32} (hc : c ≤ 6) (h1 : b 13 1 = nI c) (hj : j < 8) : f_M_put (nI j) v b = some ((), if j = 0 then b else wr b 11 (8 * c + j) v) := by
  unfold f_M_put
  by_cases j0 : j = 0
  · subst j0; rw [if_pos (show nI 0 ≤ 0 by decide), if_pos rfl]
  · rw [if_neg (nI_nle (by omega) (by omega)), if_neg j0, h1, lit_mul (N := 8) (n := 8) rfl, nI_add, ix_nI (by omega) (by decide), nm_s, cl_nI (by omega)]
theorem pM_next {b : eS} {c : Nat} (hc : c ≤ 6) (h1 : b 13 1 = nI c) : f_M_access_56 b = some ((), wr b 12 c (b 12 c + 1)) := by
  unfold f_M_access_56
  rw [h1, ix_nI (by omega) (by decide), ix_nI (by omega) (by decide), nm_s, cl_nI (by omega)]
theorem rel_next {a b : eS} {c : Nat} (h : Rel a b) : Rel (wr a 8 c (a 8 c + 1)) (wr b 12 c (b 12 c + 1)) := by
  rw [h.1.2.2.2.2]; exact rel_pc h
/-- a register is set, the PC goes on -/
theorem rel_set {a b : eS} {c j : Nat} {v : Int32} (h : Rel a b) (hc : c ≤ 6) (hj : j < 8) : ∃ a', f_C_put c (nI j) v (wr a 8 c (a 8 c + 1)) = some ((), a') ∧ Rel a' (wr (if j = 0 then b else wr b 11 (8 * c + j) v) 12 c (b 12 c + 1)) := by
  by_cases j0 : j = 0
  · subst j0
    exact ⟨_, pC_put0, by rw [if_pos rfl]; exact rel_next h⟩
  · refine ⟨_, pC_put (by omega) hj, ?_⟩
    rw [if_neg j0, wr_comm _ _ _ _ _ (show 8 ≠ 10 + c by omega), h.1.2.2.2.2]
    exact rel_pc (rel_reg h (by omega) (by omega) hj)
theorem s_set {a b : eS} {c j : Nat} {v : Int32} (h : Rel a b) (hc : c ≤ 6) (h1 : b 13 1 = nI c) (hj : j < 8) : SimU (bnd (f_C_put c (nI j) v (wr a 8 c (a 8 c + 1))) fun _ s => some ((), s)) (f_M_step_230 (b 12 c) (nI j) v b) := by
  obtain ⟨a', p1, p2⟩ := rel_set (v := v) h hc hj
  unfold f_M_step_230
  have hp : (if j = 0 then b else wr b 11 (8 * c + j) v) 13 1 = nI c := by
    by_cases j0 : j = 0
    · rw [if_pos j0]; exact h1
    · rw [if_neg j0]; exact h1
  rw [p1, bnd_s, nm_s, pM_put hc h1 hj, bnd_s, hp, ix_nI (by omega) (by decide), nm_s, cl_nI (by omega)]
  exact SimU.of p2
theorem s_br {a b : eS} {c : Nat} {I y : Int32} (h : Rel a b) (hc : c ≤ 6) (h1 : b 13 1 = nI c) : SimU (bnd (f_W_branch c y I (wr a 8 c (a 8 c + 1))) fun _ s => some ((), s)) (f_M_step_349 (b 12 c) I y b) := by
  unfold f_W_branch f_M_step_349 f_M_step_376
  rw [nm_s, nm_s, h1]
  by_cases y0 : y = 0
  · rw [if_pos y0, if_pos y0, bnd_s, ix_nI (by omega) (by decide), nm_s, cl_nI (by omega)]
    exact SimU.of (rel_next h)
  · rw [if_neg y0, if_neg y0, bnd_s, ix_nI (by omega) (by decide), nm_s, cl_nI (by omega), wr_wr, show wr a 8 c (a 8 c + 1) 8 c = a 8 c + 1 from by rw [wr_same, upd_same], h.1.2.2.2.2]
    exact SimU.of (rel_pc h)
def mObey (v1 v5 : Int32) (s3 : eS) : Option (Unit × eS) := nm (v5 &&& (15 : Int32)) fun v6 => nm ((8 : Int32) * (s3 13 1)) fun v7 => nm ((v5 >>> ((4 : Int32) &&& 31)) &&& (7 : Int32)) fun v8 => ix (v7 + ((v5 >>> ((7 : Int32) &&& 31)) &&& (7 : Int32))) 56 (nm (s3 11 (Int32.toNatClampNeg (v7 + ((v5 >>> ((7 : Int32) &&& 31)) &&& (7 : Int32))))) fun v9 => ix (v7 + ((v5 >>> ((10 : Int32) &&& 31)) &&& (7 : Int32))) 56 (nm (s3 11 (Int32.toNatClampNeg (v7 + ((v5 >>> ((10 : Int32) &&& 31)) &&& (7 : Int32))))) fun v10 => nm (v5 >>> ((16 : Int32) &&& 31)) fun v11 => (if v6 < (1 : Int32) then (f_M_step_255 v1 v6 v7 v8 v9 v11 s3) else (if (6 : Int32) < v6 then (f_M_step_255 v1 v6 v7 v8 v9 v11 s3) else (if v6 = (1 : Int32) then (f_M_step_230 v1 v8 v11 s3) else (if v6 = (2 : Int32) then (f_M_step_230 v1 v8 (v9 + v11) s3) else (if v6 = (3 : Int32) then (f_M_step_230 v1 v8 (v9 + v10) s3) else (if v6 = (4 : Int32) then (f_M_step_230 v1 v8 (v9 - v10) s3) else (if v6 = (5 : Int32) then (f_M_step_230 v1 v8 (v9 * v10) s3) else (f_M_step_230 v1 v8 (v9 ^^^ v10) s3))))))))))
theorem s_access {a b : eS} {c j : Nat} {p : Int32} (h : Rel a b) (hc : c ≤ 6) (h1 : b 13 1 = nI c) (h2 : a 9 2 = if c = 6 then (-1 : Int32) else nI c) (hj : j < 8) (ld : Bool) (X Y Z : Int32) (hp : p = X + Z) : SimU (f_W_obey_74 c (if ld then 7 else 8) (nI j) X Y Z a) (f_M_step_279 (nI j) X Z (if ld then 1 else 0) b) := by
  obtain ⟨u, u1, u2, u3⟩ := s_use h hc h2 p
  unfold f_W_obey_74 f_M_step_279 f_M_access
  rw [← hp, u1, h1, u2, bnd_s, bnd_s]
  by_cases u0 : u = 0
  · rw [if_pos u0, if_pos u0]
    obtain ⟨a', b', q1, q2, q3⟩ := s_fault (k := 3) h hc h1 h2
    rw [q1, q2, bnd_s, bnd_s, bnd_s]
    exact SimU.of q3
  · obtain ⟨i, hi, rfl⟩ := u3 u0
    rw [if_neg u0, if_neg u0]
    cases ld with
    | true =>
      obtain ⟨a', p1, p2⟩ := rel_set (c := c) (j := j) (v := b 0 i) h hc hj
      have hw : f_W_obey_92 c 7 (nI j) X Y Z a = bnd (ix (X + Z) 256 (f_C_put c (nI j) (wr a 8 c (a 8 c + 1) 0 (Int32.toNatClampNeg (X + Z))) (wr a 8 c (a 8 c + 1)))) (fun _ s28 => some ((), s28)) := by
        have e1 : f_W_obey_92 c 7 (nI j) X Y Z a = ix (X + Z) 256 (bnd (f_C_put c (nI j) (wr a 8 c (a 8 c + 1) 0 (Int32.toNatClampNeg (X + Z))) (wr a 8 c (a 8 c + 1))) fun _ s28 => some ((), s28)) := rfl
        rw [e1, ← hp, ix_nI hi (by decide), ix_nI hi (by decide)]
      have hput : (if j = 0 then b else wr b 11 (8 * c + j) (b 0 i)) 13 1 = nI c := by
        by_cases j0 : j = 0
        · rw [if_pos j0]; exact h1
        · rw [if_neg j0]; exact h1
      have hpc : (if j = 0 then b else wr b 11 (8 * c + j) (b 0 i)) 12 c = b 12 c := by
        by_cases j0 : j = 0
        · rw [if_pos j0]
        · rw [if_neg j0]; rfl
      show SimU (f_W_obey_92 c 7 (nI j) X Y Z a) (bnd (if (1 : Int32) = 0 then _ else _) _)
      rw [hw, ← hp, ix_nI hi (by decide), cl_nI (by omega), show wr a 8 c (a 8 c + 1) 0 i = b 0 i from congrFun h.1.1 i, p1, bnd_s, if_neg (by decide), ix_nI hi (by decide), pM_put hc h1 hj, bnd_s, pM_next hc hput, bnd_s, hpc]
      exact SimU.of p2
    | false =>
      have hw : f_W_obey_92 c 8 (nI j) X Y Z a = bnd (f_C_get c (nI j) (wr a 8 c (a 8 c + 1))) (fun r31 s32 => ix (X + Z) 256 (nm (wr s32 0 (Int32.toNatClampNeg (X + Z)) r31) fun s34 => some ((), s34))) := rfl
      show SimU (f_W_obey_92 c 8 (nI j) X Y Z a) (bnd (if (0 : Int32) = 0 then _ else _) _)
      rw [hw, ← hp, pC_get hj, bnd_s, ix_nI hi (by decide), nm_s, cl_nI (by omega), if_pos rfl, h1, lit_mul (N := 8) (n := 8) rfl, nI_add, ix_nI (by omega) (by decide), ix_nI hi (by decide), nm_s, cl_nI (by omega), pM_next (b := wr b 0 i (b 11 (8 * c + j))) hc h1, bnd_s, wr_ne a c (a 8 c + 1) (show 10 + c ≠ 8 by omega), h.2.1.1 c (by omega) j hj, wr_comm _ _ _ _ _ (show 8 ≠ 0 by decide)]
      exact SimU.of (rel_next (rel_mem h))
