/-- the arrays 3 .. n - 1 of the reference are made -/
def PS (w0 w : cd_Wd) (m : Nat) (B : Nat → Nat) (n : Nat) : Prop := cd_kd w m = 14 ∧ cd_I w 192 m 0 = 0 ∧ cd_I w 193 m 0 = 0 ∧ (∀ k, 3 ≤ k → k < n → cd_O w (192 + k) m 0 = some (B k) ∧ cd_kd w (B k) = mk_k k ∧ cd_ln w (B k) = mk_l k ∧ (∀ t j, cd_I w t (B k) j = 0) ∧ cd_kd w0 (B k) = 0) ∧ (∀ k k', 3 ≤ k → k < n → 3 ≤ k' → k' < n → B k = B k' → k = k') ∧ cd_Fr w0 w (fun y => y = m ∨ cd_kd w0 y = 0)
theorem mk_k0 (k : Nat) : mk_k k ≠ 0 ∧ mk_k k ≠ 14 := by
  unfold mk_k
  split <;> decide
theorem PS.m {w0 w : cd_Wd} {m : Nat} {B : Nat → Nat} {n q k' l' : Nat} (h : PS w0 w m B n) (hq : cd_kd w q = 0) : cd_kd (cd_wN w q k' l') m = 14 := by
  rw [kd_wN, if_neg (fun e => by have := h.1; rw [e, hq] at this; cases this)]
  exact h.1
theorem PS.step {w0 w : cd_Wd} {m : Nat} {B : Nat → Nat} {n q : Nat} (hm : cd_kd w0 m = 14) (h : PS w0 w m B n) (hq : cd_kd w q = 0) (hn : 3 ≤ n) : PS w0 (cd_wO (cd_wN w q (mk_k n) (mk_l n)) (192 + n) m 0 (some q)) m (fun k => if k = n then q else B k) (n + 1) := by
  obtain ⟨h1, h2, h3, h4, h5, h6⟩ := h
  have hmq : ¬ m = q := fun e => by rw [e, hq] at h1; cases h1
  have hq0 : cd_kd w0 q = 0 := h6.new hq
  refine ⟨?_, ?_, ?_, fun k hk hk' => ?_, fun k k' hk hk2 hk' hk2' e => ?_, ?_⟩
  · rw [kd_wO, kd_wN, if_neg hmq]; exact h1
  · rw [I_wO, I_wN, if_neg hmq]; exact h2
  · rw [I_wO, I_wN, if_neg hmq]; exact h3
  · by_cases e : k = n
    · subst e
      simp only [if_true]
      refine ⟨?_, ?_, ?_, fun t j => ?_, hq0⟩
      · rw [O_wO, if_pos ⟨rfl, rfl, rfl⟩]
      · rw [kd_wO, kd_wN, if_pos rfl]
      · rw [ln_wO, ln_wN, if_pos rfl]
      · rw [I_wO, I_wN, if_pos rfl]
    · obtain ⟨g1, g2, g3, g4, g5⟩ := h4 k hk (by omega)
      have hbq : ¬ B k = q := fun z => (mk_k0 k).1 (by rw [← g2, z, hq])
      simp only [if_neg e]
      refine ⟨?_, ?_, ?_, fun t j => ?_, g5⟩
      · rw [O_wO, if_neg (fun z => by omega), O_wN, if_neg hmq]; exact g1
      · rw [kd_wO, kd_wN, if_neg hbq]; exact g2
      · rw [ln_wO, ln_wN, if_neg hbq]; exact g3
      · rw [I_wO, I_wN, if_neg hbq]; exact g4 t j
  · by_cases e1 : k = n
    · by_cases e2 : k' = n
      · omega
      · simp only [if_pos e1, if_neg e2] at e
        have g2 := (h4 k' hk' (by omega)).2.1
        rw [← e, hq] at g2
        exact absurd g2.symm (mk_k0 k').1
    · by_cases e2 : k' = n
      · simp only [if_neg e1, if_pos e2] at e
        have g2 := (h4 k hk (by omega)).2.1
        rw [e, hq] at g2
        exact absurd g2.symm (mk_k0 k).1
      · simp only [if_neg e1, if_neg e2] at e
        exact h5 k k' hk (by omega) hk' (by omega) e
  · exact h6.tr ((cd_Fr.wN hq).tr (cd_Fr.wO (Or.inl rfl)))
theorem rp_w0 : rp_w cd_s0 := ⟨fun d i c hd => absurd hd (Nat.not_lt_zero d), fun d o f c hd => absurd hd (Nat.not_lt_zero d), fun d o f t hd => absurd hd (Nat.not_lt_zero d), fun c hc => absurd hc (Nat.not_lt_zero c)⟩
theorem Rel0 : Rel cd_s0 (fun _ => false) := ⟨fun c hc => absurd hc (Nat.not_lt_zero c), fun _ _ => rfl⟩
set_option maxHeartbeats 4000000 in
set_option maxRecDepth 100000 in
theorem om_init {G : cd_Gl} {l : Launch} {w : cd_Wd} {Q : cd_Out → cd_Wd → Prop} {m : Nat} (hm : cd_kd w m = 14) (h : ∀ w' B, RepM w' m B cd_s0 (fun _ => false) → cd_Fr w w' (fun y => y = m ∨ cd_kd w y = 0) → (∀ k, 3 ≤ k → k ≤ 16 → cd_kd w (B k) = 0) → Q (.inl none) w') : cd_Ct G l y_Mo_init 1 14 806 [.ref m] w Q := by
  refine cd_ofW cw_Mo_init (by simp [Value.category, cat_rf]) (Nat.le_of_ble_eq_true rfl) fun C O => ?_
  change cd_Go G l C _ 0 0 w 0 [some (.ref m), none] []
  first | refine g_aload_n O 0 d_Mo_init_0 rfl rfl ?_ | refine g_aload_nq O 0 d_Mo_init_0 rfl rfl ?_
  refine g_obj O ml_Mo_1 im_JO_init cw_JO_init d_Mo_init_1 rfl (Nat.le_of_ble_eq_true rfl) (Nat.le_of_ble_eq_true rfl) ?_
  first | refine g_aload_n O 0 d_Mo_init_4 rfl rfl ?_ | refine g_aload_nq O 0 d_Mo_init_4 rfl rfl ?_
  refine g_iconst (v := 0) O d_Mo_init_5 (by decide) ?_
  refine g_putI O c_Mo 0 (by decide) rfl hm (Or.inl rfl) (Or.inl rfl) lk_Mo_7 d_Mo_init_6 ?_
  first | refine g_aload_n O 0 d_Mo_init_9 rfl rfl ?_ | refine g_aload_nq O 0 d_Mo_init_9 rfl rfl ?_
  refine g_iconst (v := 0) O d_Mo_init_10 (by decide) ?_
  refine g_putI O c_Mo 1 (by decide) rfl hm (Or.inl rfl) (Or.inl rfl) lk_Mo_13 d_Mo_init_11 ?_
  first | refine g_aload_n O 0 d_Mo_init_14 rfl rfl ?_ | refine g_aload_nq O 0 d_Mo_init_14 rfl rfl ?_
  refine g_iconst (v := 0) O d_Mo_init_15 (by decide) ?_
  refine g_putI O c_Mo 2 (by decide) rfl hm (Or.inl rfl) (Or.inl rfl) lk_Mo_16 d_Mo_init_16 ?_
  have hP3 : PS w (cd_wI (cd_wI (cd_wI w (32 * 6 + 0) m 0 0) (32 * 6 + 1) m 0 0) (32 * 6 + 2) m 0 0) m (fun _ => 0) 3 := by
    refine ⟨hm, ?_, ?_, fun k h1 h2 => by omega, fun k k' h1 h2 => by omega, ((cd_Fr.wI (Or.inl rfl)).tr (cd_Fr.wI (Or.inl rfl))).tr (cd_Fr.wI (Or.inl rfl))⟩
    · rw [w_nt (by decide), w_nt (by decide), w_eq]
    · rw [w_nt (by decide), w_eq]
  first | refine g_aload_n O 0 d_Mo_init_19 rfl rfl ?_ | refine g_aload_nq O 0 d_Mo_init_19 rfl rfl ?_
  refine g_bipush (v := 6) O d_Mo_init_20 (by decide) ?_
  refine g_newa (N := 6) O 1 rfl rfl (Or.inl ⟨rfl, rfl⟩) d_Mo_init_22 (by decide) (by decide) (by decide) (Nat.le_of_ble_eq_true rfl) (Nat.le_of_ble_eq_true rfl) (fun b22 z22 => ?_)
  first | refine g_putS O c_Mo 3 (by decide) rfl (PS.m hP3 z22) (Or.inr ⟨rfl, rfl, rfl⟩) lk_Mo_19 d_Mo_init_24 ?_ | refine g_putO O c_Mo 3 (by decide) rfl (PS.m hP3 z22) (Or.inr ⟨rfl, rfl, rfl⟩) lk_Mo_19 d_Mo_init_24 ?_
  have hP4 := PS.step hm hP3 z22 (by omega)
  first | refine g_aload_n O 0 d_Mo_init_27 rfl rfl ?_ | refine g_aload_nq O 0 d_Mo_init_27 rfl rfl ?_
  refine g_bipush (v := 72) O d_Mo_init_28 (by decide) ?_
  refine g_newa (N := 72) O 1 rfl rfl (Or.inl ⟨rfl, rfl⟩) d_Mo_init_30 (by decide) (by decide) (by decide) (Nat.le_of_ble_eq_true rfl) (Nat.le_of_ble_eq_true rfl) (fun b30 z30 => ?_)
  first | refine g_putS O c_Mo 4 (by decide) rfl (PS.m hP4 z30) (Or.inr ⟨rfl, rfl, rfl⟩) lk_Mo_23 d_Mo_init_32 ?_ | refine g_putO O c_Mo 4 (by decide) rfl (PS.m hP4 z30) (Or.inr ⟨rfl, rfl, rfl⟩) lk_Mo_23 d_Mo_init_32 ?_
  have hP5 := PS.step hm hP4 z30 (by omega)
  first | refine g_aload_n O 0 d_Mo_init_35 rfl rfl ?_ | refine g_aload_nq O 0 d_Mo_init_35 rfl rfl ?_
  refine g_sipush (v := 216) O d_Mo_init_36 (by decide) ?_
  refine g_newa (N := 216) O 0 rfl rfl (Or.inl ⟨rfl, rfl⟩) d_Mo_init_39 (by decide) (by decide) (by decide) (Nat.le_of_ble_eq_true rfl) (Nat.le_of_ble_eq_true rfl) (fun b39 z39 => ?_)
  first | refine g_putS O c_Mo 5 (by decide) rfl (PS.m hP5 z39) (Or.inr ⟨rfl, rfl, rfl⟩) lk_Mo_26 d_Mo_init_41 ?_ | refine g_putO O c_Mo 5 (by decide) rfl (PS.m hP5 z39) (Or.inr ⟨rfl, rfl, rfl⟩) lk_Mo_26 d_Mo_init_41 ?_
  have hP6 := PS.step hm hP5 z39 (by omega)
  first | refine g_aload_n O 0 d_Mo_init_44 rfl rfl ?_ | refine g_aload_nq O 0 d_Mo_init_44 rfl rfl ?_
  refine g_sipush (v := 216) O d_Mo_init_45 (by decide) ?_
  refine g_newa (N := 216) O 0 rfl rfl (Or.inl ⟨rfl, rfl⟩) d_Mo_init_48 (by decide) (by decide) (by decide) (Nat.le_of_ble_eq_true rfl) (Nat.le_of_ble_eq_true rfl) (fun b48 z48 => ?_)
  first | refine g_putS O c_Mo 6 (by decide) rfl (PS.m hP6 z48) (Or.inr ⟨rfl, rfl, rfl⟩) lk_Mo_30 d_Mo_init_50 ?_ | refine g_putO O c_Mo 6 (by decide) rfl (PS.m hP6 z48) (Or.inr ⟨rfl, rfl, rfl⟩) lk_Mo_30 d_Mo_init_50 ?_
  have hP7 := PS.step hm hP6 z48 (by omega)
  first | refine g_aload_n O 0 d_Mo_init_53 rfl rfl ?_ | refine g_aload_nq O 0 d_Mo_init_53 rfl rfl ?_
  refine g_bipush (v := 48) O d_Mo_init_54 (by decide) ?_
  refine g_newa (N := 48) O 0 rfl rfl (Or.inl ⟨rfl, rfl⟩) d_Mo_init_56 (by decide) (by decide) (by decide) (Nat.le_of_ble_eq_true rfl) (Nat.le_of_ble_eq_true rfl) (fun b56 z56 => ?_)
  first | refine g_putS O c_Mo 7 (by decide) rfl (PS.m hP7 z56) (Or.inr ⟨rfl, rfl, rfl⟩) lk_Mo_33 d_Mo_init_58 ?_ | refine g_putO O c_Mo 7 (by decide) rfl (PS.m hP7 z56) (Or.inr ⟨rfl, rfl, rfl⟩) lk_Mo_33 d_Mo_init_58 ?_
  have hP8 := PS.step hm hP7 z56 (by omega)
  first | refine g_aload_n O 0 d_Mo_init_61 rfl rfl ?_ | refine g_aload_nq O 0 d_Mo_init_61 rfl rfl ?_
  refine g_bipush (v := 40) O d_Mo_init_62 (by decide) ?_
  refine g_newa (N := 40) O 0 rfl rfl (Or.inl ⟨rfl, rfl⟩) d_Mo_init_64 (by decide) (by decide) (by decide) (Nat.le_of_ble_eq_true rfl) (Nat.le_of_ble_eq_true rfl) (fun b64 z64 => ?_)
  first | refine g_putS O c_Mo 8 (by decide) rfl (PS.m hP8 z64) (Or.inr ⟨rfl, rfl, rfl⟩) lk_Mo_36 d_Mo_init_66 ?_ | refine g_putO O c_Mo 8 (by decide) rfl (PS.m hP8 z64) (Or.inr ⟨rfl, rfl, rfl⟩) lk_Mo_36 d_Mo_init_66 ?_
  have hP9 := PS.step hm hP8 z64 (by omega)
  first | refine g_aload_n O 0 d_Mo_init_69 rfl rfl ?_ | refine g_aload_nq O 0 d_Mo_init_69 rfl rfl ?_
  refine g_bipush (v := 40) O d_Mo_init_70 (by decide) ?_
  refine g_newa (N := 40) O 0 rfl rfl (Or.inl ⟨rfl, rfl⟩) d_Mo_init_72 (by decide) (by decide) (by decide) (Nat.le_of_ble_eq_true rfl) (Nat.le_of_ble_eq_true rfl) (fun b72 z72 => ?_)
  first | refine g_putS O c_Mo 9 (by decide) rfl (PS.m hP9 z72) (Or.inr ⟨rfl, rfl, rfl⟩) lk_Mo_39 d_Mo_init_74 ?_ | refine g_putO O c_Mo 9 (by decide) rfl (PS.m hP9 z72) (Or.inr ⟨rfl, rfl, rfl⟩) lk_Mo_39 d_Mo_init_74 ?_
  have hP10 := PS.step hm hP9 z72 (by omega)
  first | refine g_aload_n O 0 d_Mo_init_77 rfl rfl ?_ | refine g_aload_nq O 0 d_Mo_init_77 rfl rfl ?_
  refine g_bipush (v := 40) O d_Mo_init_78 (by decide) ?_
  refine g_newa (N := 40) O 0 rfl rfl (Or.inl ⟨rfl, rfl⟩) d_Mo_init_80 (by decide) (by decide) (by decide) (Nat.le_of_ble_eq_true rfl) (Nat.le_of_ble_eq_true rfl) (fun b80 z80 => ?_)
  first | refine g_putS O c_Mo 10 (by decide) rfl (PS.m hP10 z80) (Or.inr ⟨rfl, rfl, rfl⟩) lk_Mo_42 d_Mo_init_82 ?_ | refine g_putO O c_Mo 10 (by decide) rfl (PS.m hP10 z80) (Or.inr ⟨rfl, rfl, rfl⟩) lk_Mo_42 d_Mo_init_82 ?_
  have hP11 := PS.step hm hP10 z80 (by omega)
  first | refine g_aload_n O 0 d_Mo_init_85 rfl rfl ?_ | refine g_aload_nq O 0 d_Mo_init_85 rfl rfl ?_
  refine g_bipush (v := 40) O d_Mo_init_86 (by decide) ?_
  refine g_newa (N := 40) O 0 rfl rfl (Or.inl ⟨rfl, rfl⟩) d_Mo_init_88 (by decide) (by decide) (by decide) (Nat.le_of_ble_eq_true rfl) (Nat.le_of_ble_eq_true rfl) (fun b88 z88 => ?_)
  first | refine g_putS O c_Mo 11 (by decide) rfl (PS.m hP11 z88) (Or.inr ⟨rfl, rfl, rfl⟩) lk_Mo_45 d_Mo_init_90 ?_ | refine g_putO O c_Mo 11 (by decide) rfl (PS.m hP11 z88) (Or.inr ⟨rfl, rfl, rfl⟩) lk_Mo_45 d_Mo_init_90 ?_
  have hP12 := PS.step hm hP11 z88 (by omega)
  first | refine g_aload_n O 0 d_Mo_init_93 rfl rfl ?_ | refine g_aload_nq O 0 d_Mo_init_93 rfl rfl ?_
  refine g_bipush (v := 40) O d_Mo_init_94 (by decide) ?_
  refine g_newa (N := 40) O 1 rfl rfl (Or.inl ⟨rfl, rfl⟩) d_Mo_init_96 (by decide) (by decide) (by decide) (Nat.le_of_ble_eq_true rfl) (Nat.le_of_ble_eq_true rfl) (fun b96 z96 => ?_)
  first | refine g_putS O c_Mo 12 (by decide) rfl (PS.m hP12 z96) (Or.inr ⟨rfl, rfl, rfl⟩) lk_Mo_48 d_Mo_init_98 ?_ | refine g_putO O c_Mo 12 (by decide) rfl (PS.m hP12 z96) (Or.inr ⟨rfl, rfl, rfl⟩) lk_Mo_48 d_Mo_init_98 ?_
  have hP13 := PS.step hm hP12 z96 (by omega)
  first | refine g_aload_n O 0 d_Mo_init_101 rfl rfl ?_ | refine g_aload_nq O 0 d_Mo_init_101 rfl rfl ?_
  refine g_bipush (v := 12) O d_Mo_init_102 (by decide) ?_
  refine g_newa (N := 12) O 0 rfl rfl (Or.inl ⟨rfl, rfl⟩) d_Mo_init_104 (by decide) (by decide) (by decide) (Nat.le_of_ble_eq_true rfl) (Nat.le_of_ble_eq_true rfl) (fun b104 z104 => ?_)
  first | refine g_putS O c_Mo 13 (by decide) rfl (PS.m hP13 z104) (Or.inr ⟨rfl, rfl, rfl⟩) lk_Mo_51 d_Mo_init_106 ?_ | refine g_putO O c_Mo 13 (by decide) rfl (PS.m hP13 z104) (Or.inr ⟨rfl, rfl, rfl⟩) lk_Mo_51 d_Mo_init_106 ?_
  have hP14 := PS.step hm hP13 z104 (by omega)
  first | refine g_aload_n O 0 d_Mo_init_109 rfl rfl ?_ | refine g_aload_nq O 0 d_Mo_init_109 rfl rfl ?_
  refine g_bipush (v := 12) O d_Mo_init_110 (by decide) ?_
  refine g_newa (N := 12) O 0 rfl rfl (Or.inl ⟨rfl, rfl⟩) d_Mo_init_112 (by decide) (by decide) (by decide) (Nat.le_of_ble_eq_true rfl) (Nat.le_of_ble_eq_true rfl) (fun b112 z112 => ?_)
  first | refine g_putS O c_Mo 14 (by decide) rfl (PS.m hP14 z112) (Or.inr ⟨rfl, rfl, rfl⟩) lk_Mo_54 d_Mo_init_114 ?_ | refine g_putO O c_Mo 14 (by decide) rfl (PS.m hP14 z112) (Or.inr ⟨rfl, rfl, rfl⟩) lk_Mo_54 d_Mo_init_114 ?_
  have hP15 := PS.step hm hP14 z112 (by omega)
  first | refine g_aload_n O 0 d_Mo_init_117 rfl rfl ?_ | refine g_aload_nq O 0 d_Mo_init_117 rfl rfl ?_
  refine g_bipush (v := 12) O d_Mo_init_118 (by decide) ?_
  refine g_newa (N := 12) O 0 rfl rfl (Or.inl ⟨rfl, rfl⟩) d_Mo_init_120 (by decide) (by decide) (by decide) (Nat.le_of_ble_eq_true rfl) (Nat.le_of_ble_eq_true rfl) (fun b120 z120 => ?_)
  first | refine g_putS O c_Mo 15 (by decide) rfl (PS.m hP15 z120) (Or.inr ⟨rfl, rfl, rfl⟩) lk_Mo_57 d_Mo_init_122 ?_ | refine g_putO O c_Mo 15 (by decide) rfl (PS.m hP15 z120) (Or.inr ⟨rfl, rfl, rfl⟩) lk_Mo_57 d_Mo_init_122 ?_
  have hP16 := PS.step hm hP15 z120 (by omega)
  first | refine g_aload_n O 0 d_Mo_init_125 rfl rfl ?_ | refine g_aload_nq O 0 d_Mo_init_125 rfl rfl ?_
  refine g_bipush (v := 12) O d_Mo_init_126 (by decide) ?_
  refine g_newa (N := 12) O 0 rfl rfl (Or.inl ⟨rfl, rfl⟩) d_Mo_init_128 (by decide) (by decide) (by decide) (Nat.le_of_ble_eq_true rfl) (Nat.le_of_ble_eq_true rfl) (fun b128 z128 => ?_)
  first | refine g_putS O c_Mo 16 (by decide) rfl (PS.m hP16 z128) (Or.inr ⟨rfl, rfl, rfl⟩) lk_Mo_60 d_Mo_init_130 ?_ | refine g_putO O c_Mo 16 (by decide) rfl (PS.m hP16 z128) (Or.inr ⟨rfl, rfl, rfl⟩) lk_Mo_60 d_Mo_init_130 ?_
  have hP17 := PS.step hm hP16 z128 (by omega)
  first | refine g_aload_n O 0 d_Mo_init_133 rfl rfl ?_ | refine g_aload_nq O 0 d_Mo_init_133 rfl rfl ?_
  refine g_iconst (v := 0) O d_Mo_init_134 (by decide) ?_
  refine g_putI O c_Mo 17 (by decide) rfl hP17.1 (Or.inl rfl) (Or.inl rfl) lk_Mo_63 d_Mo_init_135 ?_
  refine g_iconst (v := 0) O d_Mo_init_138 (by decide) ?_
  refine g_istore_n O 1 d_Mo_init_139 rfl (Nat.le_of_ble_eq_true rfl) ?_
  obtain ⟨p1, p2, p3, p4, p5, p6⟩ := hP17
  generalize hB9 : (fun k => if k = 16 then b128 else (fun k => if k = 15 then b120 else _) k) = B at p4 p5
  have hB0 : ∀ k, 3 ≤ k → k ≤ 16 → cd_kd w (B k) = 0 := fun k a1 a2 => (p4 k a1 (by omega)).2.2.2.2
  have loop : ∀ (j : Nat) (v : cd_Wd), j ≤ 48 → (shM v m B ∧ cd_I v 192 m 0 = 0 ∧ cd_I v 193 m 0 = 0 ∧ (∀ k, 3 ≤ k → k ≤ 16 → k ≠ 7 → ∀ t j, cd_I v t (B k) j = 0) ∧ (∀ i, i < j → cd_I v 1000 (B 7) i = -1) ∧ cd_Fr w v (fun y => y = m ∨ cd_kd w y = 0)) → cd_Go G l C (cd_MQ G (cx_s C) (cx_b C) 14 806 Q) (14) (806) v 140 [some (.ref m), some (.int (nI j))] [] := by
    refine lp (48) (P := fun j v => shM v m B ∧ cd_I v 192 m 0 = 0 ∧ cd_I v 193 m 0 = 0 ∧ (∀ k, 3 ≤ k → k ≤ 16 → k ≠ 7 → ∀ t j, cd_I v t (B k) j = 0) ∧ (∀ i, i < j → cd_I v 1000 (B 7) i = -1) ∧ cd_Fr w v (fun y => y = m ∨ cd_kd w y = 0)) (g := fun j v => cd_Go G l C (cd_MQ G (cx_s C) (cx_b C) 14 806 Q) (14) (806) v 140 [some (.ref m), some (.int (nI j))] []) (fun v hP => ?_) (fun j v hj hP ih => ?_)
    · skip
      obtain ⟨hS, h2, h3, h4, h5, hF⟩ := hP
      refine g_iload_n O 1 d_Mo_init_140 rfl rfl ?_
      refine g_bipush (v := 48) O d_Mo_init_141 (by decide) ?_
      refine g_icmp_ge  O 159 d_Mo_init_143 (by decide) (fun c143 => ?_) (fun c143 => ?_)
      · refine g_ret O d_Mo_init_159 (Nat.le_of_ble_eq_true rfl) (Nat.le_of_ble_eq_true rfl) ?_
        refine h v B ⟨hS, ?_, ?_, by decide, by decide, ⟨fun d hd => ?_, fun d o hd ho => ?_, fun d o f hd ho hf => ?_, fun d i hd hi => ?_, fun c hc => absurd hc (Nat.not_lt_zero c), fun c hc => ?_⟩, rp_w0⟩ hF hB0
        · rw [h2]; exact nI_0.symm
        · rw [h3]; exact nI_0.symm
        · exact h4 3 (by omega) (by omega) (by omega) _ _
        · exact h4 4 (by omega) (by omega) (by omega) _ _
        · exact ⟨h4 5 (by omega) (by omega) (by omega) _ _, h4 6 (by omega) (by omega) (by omega) _ _⟩
        · exact h5 _ (by omega)
        · exact h4 12 (by omega) (by omega) (by omega) _ _
      · exact absurd (show (48 : Int32) ≤ nI 48 from by decide) c143
    · skip
      obtain ⟨hS, h2, h3, h4, h5, hF⟩ := hP
      refine g_iload_n O 1 d_Mo_init_140 rfl rfl ?_
      refine g_bipush (v := 48) O d_Mo_init_141 (by decide) ?_
      refine g_icmp_ge  O 159 d_Mo_init_143 (by decide) (fun c143 => ?_) (fun c143 => ?_)
      · exact absurd c143 (nI_ge (b := 48) hj (by omega))
      · first | refine g_aload_n O 0 d_Mo_init_146 rfl rfl ?_ | refine g_aload_nq O 0 d_Mo_init_146 rfl rfl ?_
        refine g_getS O c_Mo 7 (by decide) rfl hS.1 lk_Mo_33 d_Mo_init_147 (hS.2.1 7 (by omega) (by omega)).1 ?_
        refine g_iload_n O 1 d_Mo_init_150 rfl rfl ?_
        refine g_iconst (v := -1) O d_Mo_init_151 (by decide) ?_
        refine g_iast O 0 rfl rfl (hS.2.1 7 (by omega) (by omega)).2.1 (vinL (hS.2.1 7 (by omega) (by omega)).2.2 (ix_in (n := 48) hj (by omega))) d_Mo_init_152 ?_
        first | refine g_iinc O d_Mo_init_153 rfl (ic1 _) ?_ | refine g_iinc O d_Mo_init_153 rfl rfl ?_
        refine g_goto O 140 d_Mo_init_156 (by decide) ?_
        rw [cl_nI (by omega)]
        have hmB : ¬ m = B 7 := fun e => by
          have g := (hS.2.1 7 (by omega) (by omega)).2.1
          rw [← e, hS.1] at g
          exact (mk_k0 7).2 g.symm
        refine ih _ ⟨⟨hS.1, hS.2.1, hS.2.2⟩, ?_, ?_, fun k a1 a2 a3 t z => ?_, fun i hi => ?_, hF.tr (cd_Fr.wI (Or.inr (hB0 7 (by omega) (by omega))))⟩
        · rw [w_ne hmB]; exact h2
        · rw [w_ne hmB]; exact h3
        · rw [w_ne (fun e => a3 (hS.2.2 k 7 a1 a2 (by omega) (by omega) e))]; exact h4 k a1 a2 a3 t z
        · by_cases e : i = j
          · subst e; exact w_eq
          · rw [w_nj e]; exact h5 i (by omega)
  refine loop 0 _ (by omega) ⟨⟨p1, fun k a1 a2 => ?_, fun k k' a1 a2 a3 a4 e => p5 k k' a1 (by omega) a3 (by omega) e⟩, ?_, ?_, fun k a1 a2 a3 t z => ?_, fun i hi => absurd hi (Nat.not_lt_zero i), p6.tr (cd_Fr.wI (Or.inl rfl))⟩
  · obtain ⟨g1, g2, g3, g4, g5⟩ := p4 k a1 (by omega)
    exact ⟨g1, g2, g3⟩
  · rw [w_nt (by decide)]; exact p2
  · rw [w_nt (by decide)]; exact p3
  · have hmB : ¬ B k = m := fun e => by
      have g := (p4 k a1 (by omega)).2.1
      rw [e, p1] at g
      exact (mk_k0 k).2 g.symm
    rw [w_ne hmB]; exact (p4 k a1 (by omega)).2.2.2.1 t z
