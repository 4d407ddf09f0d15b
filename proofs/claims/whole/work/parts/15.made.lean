theorem cd_Fr.drop {w w' : cd_Wd} {P P' : Nat → Prop} (h : cd_Fr w w' P) (hp : ∀ y, P y → P' y ∨ cd_kd w y = 0) : cd_Fr w w' P' := fun b hb => ⟨(h b hb).1, (h b hb).2.1, fun n => (h b hb).2.2 fun z => (hp b z).elim n hb⟩
theorem cd_Fr.new {w w' : cd_Wd} {P : Nat → Prop} (h : cd_Fr w w' P) {y : Nat} (hy : cd_kd w' y = 0) : cd_kd w y = 0 := Decidable.byContradiction fun z => z ((h y z).1 ▸ hy)
theorem cd_Fr.I {w w' : cd_Wd} {P : Nat → Prop} (h : cd_Fr w w' P) {b : Nat} (hb : cd_kd w b ≠ 0) (hp : ¬ P b) (t j : Nat) : cd_I w' t b j = cd_I w t b j := ((h b hb).2.2 hp).1 t j
theorem cd_Fr.O {w w' : cd_Wd} {P : Nat → Prop} (h : cd_Fr w w' P) {b : Nat} (hb : cd_kd w b ≠ 0) (hp : ¬ P b) (t j : Nat) : cd_O w' t b j = cd_O w t b j := ((h b hb).2.2 hp).2.1 t j
theorem cd_Fr.k {w w' : cd_Wd} {P : Nat → Prop} (h : cd_Fr w w' P) {b : Nat} (hb : cd_kd w b ≠ 0) : cd_kd w' b = cd_kd w b := (h b hb).1
theorem cd_Fr.l {w w' : cd_Wd} {P : Nat → Prop} (h : cd_Fr w w' P) {b : Nat} (hb : cd_kd w b ≠ 0) : cd_ln w' b = cd_ln w b := (h b hb).2.1
/-- a new object of a domain: b its fields' array, c its fields -/
def obF (w w' : cd_Wd) (b : Nat) (c : Nat → Nat) (L : Nat → Nat) (f : Nat) : Prop := cd_O w' 1005 b f = some (c f) ∧ cd_kd w' (c f) = 8 ∧ cd_I w' 96 (c f) 0 = 0 ∧ cd_I w' 97 (c f) 0 = -1 ∧ cd_O w' 98 (c f) 0 = none ∧ cd_kd w (c f) = 0 ∧ L (c f) = f + 1
def obP (w w' : cd_Wd) (a b : Nat) (c : Nat → Nat) (L : Nat → Nat) (n : Nat) : Prop := cd_Fr w w' (fun y => y = a ∨ cd_kd w y = 0) ∧ cd_kd w b = 0 ∧ cd_I w' 64 a 0 = cd_I w 64 a 0 ∧ cd_O w' 65 a 0 = some b ∧ cd_kd w' b = 11 ∧ cd_ln w' b = 3 ∧ L b = 0 ∧ ∀ f, f < n → obF w w' b c L f
theorem obP_step {w v : cd_Wd} {a b q n : Nat} {c : Nat → Nat} {L : Nat → Nat} (ha : cd_kd w a = 6) (h : obP w v a b c L n) (hq : cd_kd v q = 0) (hn : n < 3) : obP w (cd_wO (cd_wI (cd_wN v q 8 0) 97 q 0 (-1)) 1005 b n (some q)) a b (fun f => if f = n then q else c f) (fun y => if y = q then n + 1 else L y) (n + 1) := by
  obtain ⟨hF, h1, h2, h3, h4, h5, h6, h7⟩ := h
  have ha' : cd_kd v a = 6 := (hF.k (by omega)).trans ha
  have hab : ¬ a = q := fun e => by rw [e, hq] at ha'; cases ha'
  have hbq : ¬ b = q := fun e => by rw [e, hq] at h4; cases h4
  have hwq : cd_kd w q = 0 := hF.new hq
  refine ⟨hF.tr (((cd_Fr.wN hq).tr (cd_Fr.wI (Or.inr hwq))).tr (cd_Fr.wO (Or.inr h1))), h1, ?_, ?_, ?_, ?_, ?_, fun f hf => ?_⟩
  · simp [I_wO, I_wI, I_wN, hab, h2]
  · simp [O_wO, O_wI, O_wN, hab, h3]
  · simp [kd_wO, kd_wI, kd_wN, hbq, h4]
  · simp [ln_wO, ln_wI, ln_wN, hbq, h5]
  · simp [hbq, h6]
  · by_cases e : f = n
    · subst e
      refine ⟨?_, ?_, ?_, ?_, ?_, ?_, ?_⟩ <;> simp [kd_wO, kd_wI, kd_wN, I_wO, I_wI, I_wN, O_wO, O_wI, O_wN, hwq]
    · obtain ⟨g1, g2, g3, g4, g5, g6, g7⟩ := h7 f (by omega)
      have hc : ¬ c f = q := fun z => by rw [z, hq] at g2; cases g2
      refine ⟨?_, ?_, ?_, ?_, ?_, ?_, ?_⟩ <;> simp [kd_wO, kd_wI, kd_wN, I_wO, I_wI, I_wN, O_wO, O_wI, O_wN, e, hc, hbq, g1, g2, g3, g4, g5, g6, g7]
set_option maxHeartbeats 4000000 in
set_option maxRecDepth 100000 in
theorem ct_Ob_init {G : cd_Gl} {l : Launch} {w : cd_Wd} {Q : cd_Out → cd_Wd → Prop} {a : Nat} (ha : cd_kd w a = 6) (h : ∀ w' b c L, obP w w' a b c L 3 → Q (.inl none) w') : cd_Ct G l y_Ob_init 2 4 12 [.ref a] w Q := by
  refine cd_ofW cw_Ob_init (by simp [Value.category, cat_rf]) (Nat.le_of_ble_eq_true rfl) fun C O => ?_
  change cd_Go G l C _ 0 0 w 0 [some (.ref a), none] []
  first | refine g_aload_n O 0 d_Ob_init_0 rfl rfl ?_ | refine g_aload_nq O 0 d_Ob_init_0 rfl rfl ?_
  refine g_obj O ml_Ob_3 im_JO_init cw_JO_init d_Ob_init_1 rfl (Nat.le_of_ble_eq_true rfl) (Nat.le_of_ble_eq_true rfl) ?_
  first | refine g_aload_n O 0 d_Ob_init_4 rfl rfl ?_ | refine g_aload_nq O 0 d_Ob_init_4 rfl rfl ?_
  refine g_iconst (v := 3) O d_Ob_init_5 (by decide) ?_
  refine g_anew (N := 3) O 5 rfl rfl kl_Ob_9 d_Ob_init_6 (by decide) (by decide) (by decide) (Nat.le_of_ble_eq_true rfl) (Nat.le_of_ble_eq_true rfl) (fun b6 z6 => ?_)
  have hab : ¬ a = b6 := fun e => by rw [e, z6] at ha; cases ha
  first | refine g_putS O c_Ob 1 (by decide) rfl (by rw [kd_wN, if_neg hab]; exact ha) (Or.inr ⟨rfl, rfl, rfl⟩) lk_Ob_11 d_Ob_init_9 ?_ | refine g_putO O c_Ob 1 (by decide) rfl (by rw [kd_wN, if_neg hab]; exact ha) (Or.inr ⟨rfl, rfl, rfl⟩) lk_Ob_11 d_Ob_init_9 ?_
  refine g_iconst (v := 0) O d_Ob_init_12 (by decide) ?_
  refine g_istore_n O 1 d_Ob_init_13 rfl (Nat.le_of_ble_eq_true rfl) ?_
  have loop : ∀ (j : Nat) (v : cd_Wd), j ≤ 3 → (∃ c L, obP w v a b6 c L j) → cd_Go G l C (cd_MQ G (cx_s C) (cx_b C) 4 12 Q) (1 + j) (3 + 3 * j) v 14 [some (.ref a), some (.int (nI j))] [] := by
    refine lp (3) (P := fun j v => ∃ c L, obP w v a b6 c L j) (g := fun j v => cd_Go G l C (cd_MQ G (cx_s C) (cx_b C) 4 12 Q) (1 + j) (3 + 3 * j) v 14 [some (.ref a), some (.int (nI j))] []) (fun v hP => ?_) (fun j v hj hP ih => ?_)
    · skip
      obtain ⟨c, L, hP⟩ := hP
      refine g_iload_n O 1 d_Ob_init_14 rfl rfl ?_
      refine g_iconst (v := 3) O d_Ob_init_15 (by decide) ?_
      refine g_icmp_ge O 38 d_Ob_init_16 (by decide) (fun c16 => ?_) (fun c16 => ?_)
      · refine g_ret O d_Ob_init_38 (Nat.le_of_ble_eq_true rfl) (Nat.le_of_ble_eq_true rfl) ?_
        exact h v b6 c L hP
      · exact absurd (show (3 : Int32) ≤ nI 3 from by decide) c16
    · skip
      obtain ⟨c, L, hP⟩ := hP
      have ha1 : cd_kd v a = 6 := (hP.1.k (by omega)).trans ha
      refine g_iload_n O 1 d_Ob_init_14 rfl rfl ?_
      refine g_iconst (v := 3) O d_Ob_init_15 (by decide) ?_
      refine g_icmp_ge O 38 d_Ob_init_16 (by decide) (fun c16 => ?_) (fun c16 => ?_)
      · exact absurd c16 (nI_ge (b := 3) hj (by omega))
      · first | refine g_aload_n O 0 d_Ob_init_19 rfl rfl ?_ | refine g_aload_nq O 0 d_Ob_init_19 rfl rfl ?_
        refine g_getS O c_Ob 1 (by decide) rfl ha1 lk_Ob_11 d_Ob_init_20 hP.2.2.2.1 ?_
        refine g_iload_n O 1 d_Ob_init_23 rfl rfl ?_
        refine g_new O c_Fi kl_Ob_9 ia_Fi in_Fi d_Ob_init_24 (by show 1 + j + 1 ≤ 4; omega) (by show 3 + 3 * j + 3 ≤ 12; omega) (fun b24 z24 => ?_)
        refine g_dup O d_Ob_init_27 (by first | rfl | exact cat_rf _) ?_
        have hbq : ¬ b6 = b24 := fun e => by have h4 := hP.2.2.2.2.1; rw [e, z24] at h4; cases h4
        refine g_calli (N := 1) (mc := 0) (ms := 0) (av := []) O cw_Fi_init pl_Fi rfl ml_Ob_17 im_Fi_init rfl d_Ob_init_28 rfl (Nat.le_of_ble_eq_true rfl) (Nat.le_of_ble_eq_true rfl) (by show 1 + j + 1 + 0 ≤ 4; omega) (by show 3 + 3 * j + 3 + 0 ≤ 12; omega) ?_
        refine ct_Fi_init (by rw [kd_wN, if_pos rfl]) ?_
        change cd_Go _ _ _ _ _ _ _ _ _ _
        first | refine g_aast (q := q_Fi) O 5 3 rfl rfl rfl (by rw [kd_wI, kd_wN, if_neg hbq]; exact hP.2.2.2.2.1) (by rw [kd_wI, kd_wN, if_pos rfl]) (by rw [ln_wI, ln_wN, if_neg hbq, hP.2.2.2.2.2.1]; exact ix_in hj (by omega)) d_Ob_init_31 ?_ | refine g_aastN (D := "CapabilityDomains$Field") O 5 rfl rfl (by rw [kd_wI, kd_wN, if_neg hbq]; exact hP.2.2.2.2.1) (by rw [ln_wI, ln_wN, if_neg hbq, hP.2.2.2.2.2.1]; exact ix_in hj (by omega)) d_Ob_init_31 ?_ | refine g_aastq (q := q_Fi) O 5 3 rfl rfl rfl (by rw [kd_wI, kd_wN, if_neg hbq]; exact hP.2.2.2.2.1) (by rw [kd_wI, kd_wN, if_pos rfl]) (by rw [ln_wI, ln_wN, if_neg hbq, hP.2.2.2.2.2.1]; exact ix_in hj (by omega)) d_Ob_init_31 ?_
        first | refine g_iinc O d_Ob_init_32 rfl (ic1 _) ?_ | refine g_iinc O d_Ob_init_32 rfl rfl ?_
        refine g_goto O 14 d_Ob_init_35 (by decide) ?_
        rw [nI_clamp (by omega)]
        exact ih _ ⟨_, _, obP_step ha hP z24 hj⟩
  refine loop 0 _ (by omega) ⟨fun _ => 0, fun _ => 0, (cd_Fr.wN z6).tr (cd_Fr.wO (Or.inl rfl)), z6, ?_, ?_, ?_, ?_, rfl, fun f hf => by omega⟩
  · simp [I_wO, I_wN, hab]
  · simp [O_wO]
  · simp [kd_wO, kd_wN]
  · simp [ln_wO, ln_wN]
/-- a new domain: b its objects' array, ob its objects, fa their fields' arrays, fi the fields -/
def doO (w w' : cd_Wd) (b : Nat) (ob fa : Nat → Nat) (fi : Nat → Nat → Nat) (L : Nat → Nat × Nat × Nat) (o : Nat) : Prop := cd_O w' 1004 b o = some (ob o) ∧ cd_kd w' (ob o) = 6 ∧ cd_I w' 64 (ob o) 0 = 0 ∧ cd_O w' 65 (ob o) 0 = some (fa o) ∧ cd_kd w' (fa o) = 11 ∧ cd_ln w' (fa o) = 3 ∧ cd_kd w (ob o) = 0 ∧ cd_kd w (fa o) = 0 ∧ L (ob o) = (4, o, 0) ∧ L (fa o) = (5, o, 0) ∧
  ∀ f, f < 3 → cd_O w' 1005 (fa o) f = some (fi o f) ∧ cd_kd w' (fi o f) = 8 ∧ cd_I w' 96 (fi o f) 0 = 0 ∧ cd_I w' 97 (fi o f) 0 = -1 ∧ cd_O w' 98 (fi o f) 0 = none ∧ cd_kd w (fi o f) = 0 ∧ L (fi o f) = (6, o, f)
def doP (w w' : cd_Wd) (a b : Nat) (ob fa : Nat → Nat) (fi : Nat → Nat → Nat) (L : Nat → Nat × Nat × Nat) (n : Nat) : Prop := cd_Fr w w' (fun y => y = a ∨ cd_kd w y = 0) ∧ cd_kd w b = 0 ∧ cd_I w' 32 a 0 = cd_I w 32 a 0 ∧ cd_O w' 33 a 0 = some b ∧ cd_kd w' b = 9 ∧ cd_ln w' b = 12 ∧ L b = (2, 0, 0) ∧ ∀ o, o < n → doO w w' b ob fa fi L o
theorem doP_step {w v v2 : cd_Wd} {a b q n : Nat} {ob fa : Nat → Nat} {fi : Nat → Nat → Nat} {L : Nat → Nat × Nat × Nat} {b' : Nat} {c' : Nat → Nat} {L' : Nat → Nat} (ha : cd_kd w a = 4) (h : doP w v a b ob fa fi L n) (hq : cd_kd v q = 0) (hn : n < 12) (h' : obP (cd_wN v q 6 0) v2 q b' c' L' 3) :
    doP w (cd_wO v2 1004 b n (some q)) a b (fun o => if o = n then q else ob o) (fun o => if o = n then b' else fa o) (fun o f => if o = n then c' f else fi o f)
      (fun y => if y = q then (4, n, 0) else if cd_kd v y = 0 then (if L' y = 0 then (5, n, 0) else (6, n, L' y - 1)) else L y) (n + 1) := by
  obtain ⟨hF, h1, h2, h3, h4, h5, h6, h7⟩ := h
  obtain ⟨k0, k1, k2, k3, k4, k5, k6, k7⟩ := h'
  have ha' : cd_kd v a = 4 := (hF.k (by omega)).trans ha
  have hab : ¬ a = q := fun e => by rw [e, hq] at ha'; cases ha'
  have hbq : ¬ b = q := fun e => by rw [e, hq] at h4; cases h4
  have hwq : cd_kd w q = 0 := hF.new hq
  have hF2 : cd_Fr v v2 (fun _ => False) := ((cd_Fr.wN hq).tr k0).drop fun y hy => by
    rcases hy with rfl | hy
    · exact Or.inr hq
    · rw [kd_wN] at hy
      split at hy
      · cases hy
      · exact Or.inr hy
  have fresh : ∀ y, cd_kd (cd_wN v q 6 0) y = 0 → cd_kd v y = 0 ∧ ¬ y = q := fun y hy => by
    rw [kd_wN] at hy
    split at hy
    · cases hy
    · next e => exact ⟨hy, e⟩
  have hv2q : cd_kd v2 q = 6 := by
    have := (k0 q (by rw [kd_wN, if_pos rfl]; decide)).1
    rw [this, kd_wN, if_pos rfl]
  have keep : ∀ y, cd_kd v y ≠ 0 → cd_kd v2 y = cd_kd v y ∧ cd_ln v2 y = cd_ln v y ∧ (∀ t j, cd_I v2 t y j = cd_I v t y j) ∧ ∀ t j, cd_O v2 t y j = cd_O v t y j := fun y hy => ⟨hF2.k hy, hF2.l hy, hF2.I hy id, hF2.O hy id⟩
  obtain ⟨a1, a2, a3, a4⟩ := keep a (by omega)
  obtain ⟨b1, b2, b3, b4⟩ := keep b (by omega)
  refine ⟨hF.tr ((hF2.up fun _ _ z => z.elim).tr (cd_Fr.wO (Or.inr h1))), h1, ?_, ?_, ?_, ?_, ?_, fun o ho => ?_⟩
  · rw [I_wO, a3, h2]
  · rw [O_wO, if_neg (fun z => by simp at z), a4, h3]
  · rw [kd_wO, b1, h4]
  · rw [ln_wO, b2, h5]
  · simp [hbq, h4, h6]
  · by_cases e : o = n
    · subst e
      obtain ⟨f1, f2⟩ := fresh b' k1
      refine ⟨?_, ?_, ?_, ?_, ?_, ?_, ?_, ?_, ?_, ?_, fun f hf => ?_⟩
      · simp [O_wO]
      · simpa [kd_wO] using hv2q
      · simpa [I_wO, I_wN] using k2
      · simpa [O_wO] using k3
      · simpa [kd_wO] using k4
      · simpa [ln_wO] using k5
      · simpa using hwq
      · simpa using hF.new f1
      · simp
      · simp [f1, f2, k6]
      · obtain ⟨g1, g2, g3, g4, g5, g6, g7⟩ := k7 f hf
        obtain ⟨e1, e2⟩ := fresh _ g6
        refine ⟨?_, ?_, ?_, ?_, ?_, ?_, ?_⟩
        · simpa [O_wO] using g1
        · simpa [kd_wO] using g2
        · simpa [I_wO] using g3
        · simpa [I_wO] using g4
        · simpa [O_wO] using g5
        · simpa using hF.new e1
        · simp [e1, e2, g7]
    · obtain ⟨g1, g2, g3, g4, g5, g6, g7, g8, g9, g10, g11⟩ := h7 o (by omega)
      have n1 : ¬ ob o = q := fun z => by rw [z, hq] at g2; cases g2
      have n2 : ¬ fa o = q := fun z => by rw [z, hq] at g5; cases g5
      obtain ⟨c1, c2, c3, c4⟩ := keep (ob o) (by omega)
      obtain ⟨d1, d2, d3, d4⟩ := keep (fa o) (by omega)
      refine ⟨?_, ?_, ?_, ?_, ?_, ?_, ?_, ?_, ?_, ?_, fun f hf => ?_⟩
      · simpa [O_wO, e, b4] using g1
      · simpa [kd_wO, e, c1] using g2
      · simpa [I_wO, e, c3] using g3
      · simpa [O_wO, e, c4] using g4
      · simpa [kd_wO, e, d1] using g5
      · simpa [ln_wO, e, d2] using g6
      · simpa [e] using g7
      · simpa [e] using g8
      · simp [e, n1, g2, g9]
      · simp [e, n2, g5, g10]
      · obtain ⟨m1, m2, m3, m4, m5, m6, m7⟩ := g11 f hf
        have n3 : ¬ fi o f = q := fun z => by rw [z, hq] at m2; cases m2
        obtain ⟨e1, e2, e3, e4⟩ := keep (fi o f) (by omega)
        refine ⟨?_, ?_, ?_, ?_, ?_, ?_, ?_⟩
        · simpa [O_wO, e, d4] using m1
        · simpa [kd_wO, e, e1] using m2
        · simpa [I_wO, e, e3] using m3
        · simpa [I_wO, e, e3] using m4
        · simpa [O_wO, e, e4] using m5
        · simpa [e] using m6
        · simp [e, n3, m2, m7]
set_option maxHeartbeats 4000000 in
set_option maxRecDepth 100000 in
theorem ct_Do_init {G : cd_Gl} {l : Launch} {w : cd_Wd} {Q : cd_Out → cd_Wd → Prop} {a : Nat} (ha : cd_kd w a = 4) (h : ∀ v b ob fa fi L q, doP w v a b ob fa fi L 12 → cd_kd v q = 0 → Q (.inl none) (cd_wO (cd_wN v q 13 8) 34 a 0 (some q))) : cd_Ct G l y_Do_init 3 62 188 [.ref a] w Q := by
  refine cd_ofW cw_Do_init (by simp [Value.category, cat_rf]) (Nat.le_of_ble_eq_true rfl) fun C O => ?_
  change cd_Go G l C _ 0 0 w 0 [some (.ref a), none] []
  first | refine g_aload_n O 0 d_Do_init_0 rfl rfl ?_ | refine g_aload_nq O 0 d_Do_init_0 rfl rfl ?_
  refine g_obj O ml_Do_3 im_JO_init cw_JO_init d_Do_init_1 rfl (Nat.le_of_ble_eq_true rfl) (Nat.le_of_ble_eq_true rfl) ?_
  first | refine g_aload_n O 0 d_Do_init_4 rfl rfl ?_ | refine g_aload_nq O 0 d_Do_init_4 rfl rfl ?_
  refine g_bipush (v := 12) O d_Do_init_5 (by decide) ?_
  refine g_anew (N := 12) O 4 rfl rfl kl_Do_9 d_Do_init_7 (by decide) (by decide) (by decide) (Nat.le_of_ble_eq_true rfl) (Nat.le_of_ble_eq_true rfl) (fun b7 z7 => ?_)
  have hab : ¬ a = b7 := fun e => by rw [e, z7] at ha; cases ha
  first | refine g_putS O c_Do 1 (by decide) rfl (by rw [kd_wN, if_neg hab]; exact ha) (Or.inr ⟨rfl, rfl, rfl⟩) lk_Do_11 d_Do_init_10 ?_ | refine g_putO O c_Do 1 (by decide) rfl (by rw [kd_wN, if_neg hab]; exact ha) (Or.inr ⟨rfl, rfl, rfl⟩) lk_Do_11 d_Do_init_10 ?_
  refine g_iconst (v := 0) O d_Do_init_13 (by decide) ?_
  refine g_istore_n O 1 d_Do_init_14 rfl (Nat.le_of_ble_eq_true rfl) ?_
  have loop : ∀ (j : Nat) (v : cd_Wd), j ≤ 12 → (∃ ob fa fi L, doP w v a b7 ob fa fi L j) → cd_Go G l C (cd_MQ G (cx_s C) (cx_b C) 62 188 Q) (1 + 5 * j) (12 + 14 * j) v 15 [some (.ref a), some (.int (nI j))] [] := by
    refine lp (12) (P := fun j v => ∃ ob fa fi L, doP w v a b7 ob fa fi L j) (g := fun j v => cd_Go G l C (cd_MQ G (cx_s C) (cx_b C) 62 188 Q) (1 + 5 * j) (12 + 14 * j) v 15 [some (.ref a), some (.int (nI j))] []) (fun v hP => ?_) (fun j v hj hP ih => ?_)
    · skip
      obtain ⟨ob, fa, fi, L, hP⟩ := hP
      have ha1 : cd_kd v a = 4 := (hP.1.k (by omega)).trans ha
      refine g_iload_n O 1 d_Do_init_15 rfl rfl ?_
      refine g_bipush (v := 12) O d_Do_init_16 (by decide) ?_
      refine g_icmp_ge O 40 d_Do_init_18 (by decide) (fun c18 => ?_) (fun c18 => ?_)
      · first | refine g_aload_n O 0 d_Do_init_40 rfl rfl ?_ | refine g_aload_nq O 0 d_Do_init_40 rfl rfl ?_
        refine g_bipush (v := 8) O d_Do_init_41 (by decide) ?_
        refine g_anew (N := 8) O 6 rfl rfl kl_Do_18 d_Do_init_43 (by decide) (by decide) (by decide) (Nat.le_of_ble_eq_true rfl) (Nat.le_of_ble_eq_true rfl) (fun b43 z43 => ?_)
        have hab : ¬ a = b43 := fun e => by rw [e, z43] at ha1; cases ha1
        first | refine g_putS O c_Do 2 (by decide) rfl (by rw [kd_wN, if_neg hab]; exact ha1) (Or.inr ⟨rfl, rfl, rfl⟩) lk_Do_20 d_Do_init_46 ?_ | refine g_putO O c_Do 2 (by decide) rfl (by rw [kd_wN, if_neg hab]; exact ha1) (Or.inr ⟨rfl, rfl, rfl⟩) lk_Do_20 d_Do_init_46 ?_
        refine g_ret O d_Do_init_49 (Nat.le_of_ble_eq_true rfl) (Nat.le_of_ble_eq_true rfl) ?_
        exact h v b7 ob fa fi L b43 hP z43
      · exact absurd (show (12 : Int32) ≤ nI 12 from by decide) c18
    · skip
      obtain ⟨ob, fa, fi, L, hP⟩ := hP
      have ha1 : cd_kd v a = 4 := (hP.1.k (by omega)).trans ha
      refine g_iload_n O 1 d_Do_init_15 rfl rfl ?_
      refine g_bipush (v := 12) O d_Do_init_16 (by decide) ?_
      refine g_icmp_ge O 40 d_Do_init_18 (by decide) (fun c18 => ?_) (fun c18 => ?_)
      · exact absurd c18 (nI_ge (b := 12) hj (by omega))
      · first | refine g_aload_n O 0 d_Do_init_21 rfl rfl ?_ | refine g_aload_nq O 0 d_Do_init_21 rfl rfl ?_
        refine g_getS O c_Do 1 (by decide) rfl ha1 lk_Do_11 d_Do_init_22 hP.2.2.2.1 ?_
        refine g_iload_n O 1 d_Do_init_25 rfl rfl ?_
        refine g_new O c_Ob kl_Do_9 ia_Ob in_Ob d_Do_init_26 (by show 1 + 5 * j + 1 ≤ 62; omega) (by show 12 + 14 * j + 2 ≤ 188; omega) (fun b26 z26 => ?_)
        refine g_dup O d_Do_init_29 (by first | rfl | exact cat_rf _) ?_
        have hbq : ¬ b7 = b26 := fun e => by have h4 := hP.2.2.2.2.1; rw [e, z26] at h4; cases h4
        refine g_calli (N := 2) (mc := 4) (ms := 12) (av := []) O cw_Ob_init pl_Ob rfl ml_Do_17 im_Ob_init rfl d_Do_init_30 rfl (Nat.le_of_ble_eq_true rfl) (Nat.le_of_ble_eq_true rfl) (by show 1 + 5 * j + 1 + 4 ≤ 62; omega) (by show 12 + 14 * j + 2 + 12 ≤ 188; omega) ?_
        refine ct_Ob_init (by rw [kd_wN, if_pos rfl]) (fun v2 b' c' L' hN => ?_)
        have hk2 : cd_kd v2 b7 = 9 := by rw [hN.1.k (by rw [kd_wN, if_neg hbq, hP.2.2.2.2.1]; decide), kd_wN, if_neg hbq]; exact hP.2.2.2.2.1
        have hl2 : cd_ln v2 b7 = 12 := by rw [hN.1.l (by rw [kd_wN, if_neg hbq, hP.2.2.2.2.1]; decide), ln_wN, if_neg hbq]; exact hP.2.2.2.2.2.1
        have hq2 : cd_kd v2 b26 = 6 := by rw [hN.1.k (by rw [kd_wN, if_pos rfl]; decide), kd_wN, if_pos rfl]
        change cd_Go _ _ _ _ _ _ _ _ _ _
        first | refine g_aast (q := q_Ob) O 4 2 rfl rfl rfl hk2 hq2 (by rw [hl2]; exact ix_in hj (by omega)) d_Do_init_33 ?_ | refine g_aastN (D := "CapabilityDomains$DomainObject") O 4 rfl rfl hk2 (by rw [hl2]; exact ix_in hj (by omega)) d_Do_init_33 ?_ | refine g_aastq (q := q_Ob) O 4 2 rfl rfl rfl hk2 hq2 (by rw [hl2]; exact ix_in hj (by omega)) d_Do_init_33 ?_
        first | refine g_iinc O d_Do_init_34 rfl (ic1 _) ?_ | refine g_iinc O d_Do_init_34 rfl rfl ?_
        refine g_goto O 15 d_Do_init_37 (by decide) ?_
        rw [nI_clamp (by omega)]
        exact ih _ ⟨_, _, _, _, doP_step ha hP z26 hj hN⟩
  refine loop 0 _ (by omega) ⟨fun _ => 0, fun _ => 0, fun _ _ => 0, fun _ => (2, 0, 0), (cd_Fr.wN z7).tr (cd_Fr.wO (Or.inl rfl)), z7, ?_, ?_, ?_, ?_, rfl, fun f hf => by omega⟩
  · simp [I_wO, I_wN, hab]
  · simp [O_wO]
  · simp [kd_wO, kd_wN]
  · simp [ln_wO, ln_wN]
set_option maxHeartbeats 4000000 in
set_option maxRecDepth 100000 in
theorem ct_Ca_init {G : cd_Gl} {l : Launch} {w : cd_Wd} {Q : cd_Out → cd_Wd → Prop} {a hm : Nat} {tg r u : Int32} {pa : Option Nat} (ha : cd_kd w a = 10) (h : Q (.inl none) (cd_wI (cd_wI (cd_wO (cd_wI (cd_wO w 128 a 0 (some hm)) 129 a 0 tg) 130 a 0 pa) 131 a 0 r) 132 a 0 u)) : cd_Ct G l y_Ca_init 1 0 0 [.ref a, .ref hm, .int tg, va_rf pa, .int r, .int u] w Q := by
  refine cd_ofW cw_Ca_init (by cases pa <;> simp [Value.category, va_rf]) (Nat.le_of_ble_eq_true rfl) fun C O => ?_
  change cd_Go G l C _ 0 0 w 0 [some (.ref a), some (.ref hm), some (.int tg), some (va_rf pa), some (.int r), some (.int u)] []
  first | refine g_aload_n O 0 d_Ca_init_0 rfl rfl ?_ | refine g_aload_nq O 0 d_Ca_init_0 rfl rfl ?_
  refine g_obj O ml_Ca_1 im_JO_init cw_JO_init d_Ca_init_1 rfl (Nat.le_of_ble_eq_true rfl) (Nat.le_of_ble_eq_true rfl) ?_
  first | refine g_aload_n O 0 d_Ca_init_4 rfl rfl ?_ | refine g_aload_nq O 0 d_Ca_init_4 rfl rfl ?_
  first | refine g_aload_n O 1 d_Ca_init_5 rfl rfl ?_ | refine g_aload_nq O 1 d_Ca_init_5 rfl rfl ?_
  first | refine g_putS O c_Ca 0 (by decide) rfl (by assumption) (Or.inr ⟨rfl, rfl, rfl⟩) lk_Ca_7 d_Ca_init_6 ?_ | refine g_putO O c_Ca 0 (by decide) rfl (by assumption) (Or.inr ⟨rfl, rfl, rfl⟩) lk_Ca_7 d_Ca_init_6 ?_
  first | refine g_aload_n O 0 d_Ca_init_9 rfl rfl ?_ | refine g_aload_nq O 0 d_Ca_init_9 rfl rfl ?_
  refine g_iload_n O 2 d_Ca_init_10 rfl rfl ?_
  refine g_putI O c_Ca 1 (by decide) rfl (by assumption) (Or.inl rfl) (Or.inr ⟨rfl, rfl, rfl⟩) lk_Ca_13 d_Ca_init_11 ?_
  first | refine g_aload_n O 0 d_Ca_init_14 rfl rfl ?_ | refine g_aload_nq O 0 d_Ca_init_14 rfl rfl ?_
  first | refine g_aload_n O 3 d_Ca_init_15 rfl rfl ?_ | refine g_aload_nq O 3 d_Ca_init_15 rfl rfl ?_
  first | refine g_putS O c_Ca 2 (by decide) rfl (by assumption) (Or.inr ⟨rfl, rfl, rfl⟩) lk_Ca_17 d_Ca_init_16 ?_ | refine g_putO O c_Ca 2 (by decide) rfl (by assumption) (Or.inr ⟨rfl, rfl, rfl⟩) lk_Ca_17 d_Ca_init_16 ?_
  first | refine g_aload_n O 0 d_Ca_init_19 rfl rfl ?_ | refine g_aload_nq O 0 d_Ca_init_19 rfl rfl ?_
  refine g_iload O d_Ca_init_20 rfl ?_
  refine g_putI O c_Ca 3 (by decide) rfl (by assumption) (Or.inl rfl) (Or.inr ⟨rfl, rfl, rfl⟩) lk_Ca_21 d_Ca_init_22 ?_
  first | refine g_aload_n O 0 d_Ca_init_25 rfl rfl ?_ | refine g_aload_nq O 0 d_Ca_init_25 rfl rfl ?_
  refine g_iload O d_Ca_init_26 rfl ?_
  refine g_putI O c_Ca 4 (by decide) rfl (by assumption) (Or.inl rfl) (Or.inl rfl) lk_Ca_24 d_Ca_init_28 ?_
  refine g_ret O d_Ca_init_31 (Nat.le_of_ble_eq_true rfl) (Nat.le_of_ble_eq_true rfl) ?_
  exact h
set_option maxHeartbeats 4000000 in
set_option maxRecDepth 100000 in
theorem ct_Re_init {G : cd_Gl} {l : Launch} {w : cd_Wd} {Q : cd_Out → cd_Wd → Prop} {a : Nat} (ha : cd_kd w a = 12) (h : ∀ b1 b2 b3, cd_kd w b1 = 0 → cd_kd w b2 = 0 → cd_kd w b3 = 0 → ¬ b1 = b2 → ¬ b1 = b3 → ¬ b2 = b3 → Q (.inl none) (cd_wO (cd_wN (cd_wO (cd_wN (cd_wO (cd_wN w b1 1 12) 161 a 0 (some b1)) b2 1 12) 162 a 0 (some b2)) b3 3 12) 163 a 0 (some b3))) : cd_Ct G l y_Re_init 1 3 36 [.ref a] w Q := by
  refine cd_ofW cw_Re_init (by simp [Value.category, cat_rf]) (Nat.le_of_ble_eq_true rfl) fun C O => ?_
  change cd_Go G l C _ 0 0 w 0 [some (.ref a)] []
  first | refine g_aload_n O 0 d_Re_init_0 rfl rfl ?_ | refine g_aload_nq O 0 d_Re_init_0 rfl rfl ?_
  refine g_obj O ml_Re_3 im_JO_init cw_JO_init d_Re_init_1 rfl (Nat.le_of_ble_eq_true rfl) (Nat.le_of_ble_eq_true rfl) ?_
  first | refine g_aload_n O 0 d_Re_init_4 rfl rfl ?_ | refine g_aload_nq O 0 d_Re_init_4 rfl rfl ?_
  refine g_bipush (v := 12) O d_Re_init_5 (by decide) ?_
  refine g_newa (N := 12) O 0 rfl rfl (Or.inl ⟨rfl, rfl⟩) d_Re_init_7 (by decide) (by decide) (by decide) (Nat.le_of_ble_eq_true rfl) (Nat.le_of_ble_eq_true rfl) (fun b7 z7 => ?_)
  have a1 : ¬ a = b7 := fun e => by rw [e, z7] at ha; cases ha
  first | refine g_putS O c_Re 1 (by decide) rfl (by rw [kd_wN, if_neg a1]; exact ha) (Or.inr ⟨rfl, rfl, rfl⟩) lk_Re_9 d_Re_init_9 ?_ | refine g_putO O c_Re 1 (by decide) rfl (by rw [kd_wN, if_neg a1]; exact ha) (Or.inr ⟨rfl, rfl, rfl⟩) lk_Re_9 d_Re_init_9 ?_
  first | refine g_aload_n O 0 d_Re_init_12 rfl rfl ?_ | refine g_aload_nq O 0 d_Re_init_12 rfl rfl ?_
  refine g_bipush (v := 12) O d_Re_init_13 (by decide) ?_
  refine g_newa (N := 12) O 0 rfl rfl (Or.inl ⟨rfl, rfl⟩) d_Re_init_15 (by decide) (by decide) (by decide) (Nat.le_of_ble_eq_true rfl) (Nat.le_of_ble_eq_true rfl) (fun b15 z15 => ?_)
  have y15 : ¬ b15 = b7 := fun e => by rw [kd_wO, kd_wN, if_pos e] at z15; cases z15
  rw [kd_wO, kd_wN, if_neg y15] at z15
  have a2 : ¬ a = b15 := fun e => by rw [e, z15] at ha; cases ha
  first | refine g_putS O c_Re 2 (by decide) rfl (by rw [kd_wN, if_neg a2, kd_wO, kd_wN, if_neg a1]; exact ha) (Or.inr ⟨rfl, rfl, rfl⟩) lk_Re_15 d_Re_init_17 ?_ | refine g_putO O c_Re 2 (by decide) rfl (by rw [kd_wN, if_neg a2, kd_wO, kd_wN, if_neg a1]; exact ha) (Or.inr ⟨rfl, rfl, rfl⟩) lk_Re_15 d_Re_init_17 ?_
  first | refine g_aload_n O 0 d_Re_init_20 rfl rfl ?_ | refine g_aload_nq O 0 d_Re_init_20 rfl rfl ?_
  refine g_bipush (v := 12) O d_Re_init_21 (by decide) ?_
  refine g_newa (N := 12) O 1 rfl rfl (Or.inl ⟨rfl, rfl⟩) d_Re_init_23 (by decide) (by decide) (by decide) (Nat.le_of_ble_eq_true rfl) (Nat.le_of_ble_eq_true rfl) (fun b23 z23 => ?_)
  rw [kd_wO, kd_wN] at z23
  split at z23
  · cases z23
  next y23 =>
  rw [kd_wO, kd_wN] at z23
  split at z23
  · cases z23
  next y24 =>
  have a3 : ¬ a = b23 := fun e => by rw [e, z23] at ha; cases ha
  first | refine g_putS O c_Re 3 (by decide) rfl (by rw [kd_wN, if_neg a3, kd_wO, kd_wN, if_neg a2, kd_wO, kd_wN, if_neg a1]; exact ha) (Or.inr ⟨rfl, rfl, rfl⟩) lk_Re_18 d_Re_init_25 ?_ | refine g_putO O c_Re 3 (by decide) rfl (by rw [kd_wN, if_neg a3, kd_wO, kd_wN, if_neg a2, kd_wO, kd_wN, if_neg a1]; exact ha) (Or.inr ⟨rfl, rfl, rfl⟩) lk_Re_18 d_Re_init_25 ?_
  refine g_ret O d_Re_init_28 (Nat.le_of_ble_eq_true rfl) (Nat.le_of_ble_eq_true rfl) ?_
  exact h b7 b15 b23 z7 z15 z23 (Ne.symm y15) (Ne.symm y24) (Ne.symm y23)
