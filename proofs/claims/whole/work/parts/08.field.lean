def cd_fN (w : cd_Wd) (a : Nat) (v : Int32) : cd_Wd := cd_wO (cd_wI (cd_wI w 96 a 0 v) 97 a 0 (-1)) 98 a 0 none
def cd_fL (w : cd_Wd) (a : Nat) (t : Int32) : cd_Wd := cd_wO (cd_wI (cd_wI w 96 a 0 0) 97 a 0 t) 98 a 0 none
def cd_fC (w : cd_Wd) (a c : Nat) : cd_Wd := cd_wO (cd_wI (cd_wI w 96 a 0 0) 97 a 0 (-1)) 98 a 0 (some c)
def cd_bi (p : Prop) [Decidable p] : Int32 := if p then 1 else 0
set_option maxHeartbeats 4000000 in
set_option maxRecDepth 100000 in
theorem ct_Fi_init {G : cd_Gl} {l : Launch} {w : cd_Wd} {Q : cd_Out → cd_Wd → Prop} {a : Nat} (ha : cd_kd w a = 8) (h : Q (.inl none) (cd_wI w 97 a 0 (-1))) : cd_Ct G l y_Fi_init 1 0 0 [.ref a] w Q := by
  refine cd_ofW cw_Fi_init (by simp [Value.category, cat_rf]) (Nat.le_of_ble_eq_true rfl) fun C O => ?_
  change cd_Go G l C _ 0 0 w 0 [some (.ref a)] []
  first | refine g_aload_n O 0 d_Fi_init_0 rfl rfl ?_ | refine g_aload_nq O 0 d_Fi_init_0 rfl rfl ?_
  refine g_obj O ml_Fi_3 im_JO_init cw_JO_init d_Fi_init_1 rfl (Nat.le_of_ble_eq_true rfl) (Nat.le_of_ble_eq_true rfl) ?_
  first | refine g_aload_n O 0 d_Fi_init_4 rfl rfl ?_ | refine g_aload_nq O 0 d_Fi_init_4 rfl rfl ?_
  refine g_iconst (v := -1) O d_Fi_init_5 (by decide) ?_
  refine g_putI O c_Fi 1 (by decide) rfl (by assumption) (Or.inl rfl) (Or.inl rfl) lk_Fi_9 d_Fi_init_6 ?_
  refine g_ret O d_Fi_init_9 (Nat.le_of_ble_eq_true rfl) (Nat.le_of_ble_eq_true rfl) ?_
  exact h
set_option maxHeartbeats 4000000 in
set_option maxRecDepth 100000 in
theorem ct_Fi_isLink {G : cd_Gl} {l : Launch} {w : cd_Wd} {Q : cd_Out → cd_Wd → Prop} {a : Nat} (ha : cd_kd w a = 8) (h : Q (.inl (some (.int (cd_bi (¬ cd_I w 97 a 0 = -1))))) w) : cd_Ct G l y_Fi_isLink 0 0 0 [.ref a] w Q := by
  refine cd_ofW cw_Fi_isLink (by simp [Value.category, cat_rf]) (Nat.le_of_ble_eq_true rfl) fun C O => ?_
  change cd_Go G l C _ 0 0 w 0 [some (.ref a)] []
  first | refine g_aload_n O 0 d_Fi_isLink_0 rfl rfl ?_ | refine g_aload_nq O 0 d_Fi_isLink_0 rfl rfl ?_
  refine g_getI O c_Fi 1 (by decide) rfl (by assumption) lk_Fi_9 d_Fi_isLink_1 ?_
  refine g_iconst (v := -1) O d_Fi_isLink_4 (by decide) ?_
  refine g_icmp_eq O 12 d_Fi_isLink_5 (by decide) (fun c5 => ?_) (fun c5 => ?_)
  · refine g_iconst (v := 0) O d_Fi_isLink_12 (by decide) ?_
    refine g_zret O d_Fi_isLink_13 (by first | exact Or.inl rfl | exact Or.inr rfl | assumption) (Nat.le_of_ble_eq_true rfl) (Nat.le_of_ble_eq_true rfl) ?_
    simp only [cd_bi] at h; first | (rw [if_pos (by assumption)] at h; exact h) | (rw [if_neg (by simpa using (by assumption))] at h; exact h)
  · refine g_iconst (v := 1) O d_Fi_isLink_8 (by decide) ?_
    refine g_goto O 13 d_Fi_isLink_9 (by decide) ?_
    refine g_zret O d_Fi_isLink_13 (by first | exact Or.inl rfl | exact Or.inr rfl | assumption) (Nat.le_of_ble_eq_true rfl) (Nat.le_of_ble_eq_true rfl) ?_
    simp only [cd_bi] at h; first | (rw [if_pos (by assumption)] at h; exact h) | (rw [if_neg (by simpa using (by assumption))] at h; exact h)
set_option maxHeartbeats 4000000 in
set_option maxRecDepth 100000 in
theorem ct_Fi_isNumber {G : cd_Gl} {l : Launch} {w : cd_Wd} {Q : cd_Out → cd_Wd → Prop} {a : Nat} (ha : cd_kd w a = 8) (h : Q (.inl (some (.int (cd_bi (cd_I w 97 a 0 = -1 ∧ cd_O w 98 a 0 = none))))) w) : cd_Ct G l y_Fi_isNumber 0 0 0 [.ref a] w Q := by
  refine cd_ofW cw_Fi_isNumber (by simp [Value.category, cat_rf]) (Nat.le_of_ble_eq_true rfl) fun C O => ?_
  change cd_Go G l C _ 0 0 w 0 [some (.ref a)] []
  first | refine g_aload_n O 0 d_Fi_isNumber_0 rfl rfl ?_ | refine g_aload_nq O 0 d_Fi_isNumber_0 rfl rfl ?_
  refine g_getI O c_Fi 1 (by decide) rfl (by assumption) lk_Fi_9 d_Fi_isNumber_1 ?_
  refine g_iconst (v := -1) O d_Fi_isNumber_4 (by decide) ?_
  refine g_icmp_ne O 19 d_Fi_isNumber_5 (by decide) (fun c5 => ?_) (fun c5 => ?_)
  · refine g_iconst (v := 0) O d_Fi_isNumber_19 (by decide) ?_
    refine g_zret O d_Fi_isNumber_20 (by first | exact Or.inl rfl | exact Or.inr rfl | assumption) (Nat.le_of_ble_eq_true rfl) (Nat.le_of_ble_eq_true rfl) ?_
    simp only [cd_bi] at h; first | (rw [if_pos ⟨by assumption, by assumption⟩] at h; exact h) | (rw [if_neg (by simp_all)] at h; exact h)
  · first | refine g_aload_n O 0 d_Fi_isNumber_8 rfl rfl ?_ | refine g_aload_nq O 0 d_Fi_isNumber_8 rfl rfl ?_
    refine g_getO O c_Fi 2 (by decide) rfl (by assumption) lk_Fi_15 d_Fi_isNumber_9 ?_
    refine g_ifnonnull O 19 d_Fi_isNumber_12 (by decide) (fun x12 c12 => ?_) (fun c12 => ?_)
    · refine g_iconst (v := 0) O d_Fi_isNumber_19 (by decide) ?_
      refine g_zret O d_Fi_isNumber_20 (by first | exact Or.inl rfl | exact Or.inr rfl | assumption) (Nat.le_of_ble_eq_true rfl) (Nat.le_of_ble_eq_true rfl) ?_
      simp only [cd_bi] at h; first | (rw [if_pos ⟨by assumption, by assumption⟩] at h; exact h) | (rw [if_neg (by simp_all)] at h; exact h)
    · refine g_iconst (v := 1) O d_Fi_isNumber_15 (by decide) ?_
      refine g_goto O 20 d_Fi_isNumber_16 (by decide) ?_
      refine g_zret O d_Fi_isNumber_20 (by first | exact Or.inl rfl | exact Or.inr rfl | assumption) (Nat.le_of_ble_eq_true rfl) (Nat.le_of_ble_eq_true rfl) ?_
      simp only [cd_bi] at h; first | (rw [if_pos ⟨by assumption, by assumption⟩] at h; exact h) | (rw [if_neg (by simp_all)] at h; exact h)
set_option maxHeartbeats 4000000 in
set_option maxRecDepth 100000 in
theorem ct_Fi_becomeNumber {G : cd_Gl} {l : Launch} {w : cd_Wd} {Q : cd_Out → cd_Wd → Prop} {a : Nat} {v : Int32} (ha : cd_kd w a = 8) (h : Q (.inl none) (cd_fN w a v)) : cd_Ct G l y_Fi_becomeNumber 0 0 0 [.ref a, .int v] w Q := by
  refine cd_ofW cw_Fi_becomeNumber (by simp [Value.category, cat_rf]) (Nat.le_of_ble_eq_true rfl) fun C O => ?_
  change cd_Go G l C _ 0 0 w 0 [some (.ref a), some (.int v)] []
  first | refine g_aload_n O 0 d_Fi_becomeNumber_0 rfl rfl ?_ | refine g_aload_nq O 0 d_Fi_becomeNumber_0 rfl rfl ?_
  refine g_iload_n O 1 d_Fi_becomeNumber_1 rfl rfl ?_
  refine g_putI O c_Fi 0 (by decide) rfl (by assumption) (Or.inl rfl) (Or.inl rfl) lk_Fi_19 d_Fi_becomeNumber_2 ?_
  first | refine g_aload_n O 0 d_Fi_becomeNumber_5 rfl rfl ?_ | refine g_aload_nq O 0 d_Fi_becomeNumber_5 rfl rfl ?_
  refine g_iconst (v := -1) O d_Fi_becomeNumber_6 (by decide) ?_
  refine g_putI O c_Fi 1 (by decide) rfl (by assumption) (Or.inl rfl) (Or.inl rfl) lk_Fi_9 d_Fi_becomeNumber_7 ?_
  first | refine g_aload_n O 0 d_Fi_becomeNumber_10 rfl rfl ?_ | refine g_aload_nq O 0 d_Fi_becomeNumber_10 rfl rfl ?_
  refine g_null O d_Fi_becomeNumber_11 ?_
  first | refine g_putS O c_Fi 2 (by decide) rfl (by assumption) (Or.inl rfl) lk_Fi_15 d_Fi_becomeNumber_12 ?_ | refine g_putO O c_Fi 2 (by decide) rfl (by assumption) (Or.inl rfl) lk_Fi_15 d_Fi_becomeNumber_12 ?_
  refine g_ret O d_Fi_becomeNumber_15 (Nat.le_of_ble_eq_true rfl) (Nat.le_of_ble_eq_true rfl) ?_
  exact h
set_option maxHeartbeats 4000000 in
set_option maxRecDepth 100000 in
theorem ct_Fi_becomeLink {G : cd_Gl} {l : Launch} {w : cd_Wd} {Q : cd_Out → cd_Wd → Prop} {a : Nat} {v : Int32} (ha : cd_kd w a = 8) (h : Q (.inl none) (cd_fL w a v)) : cd_Ct G l y_Fi_becomeLink 0 0 0 [.ref a, .int v] w Q := by
  refine cd_ofW cw_Fi_becomeLink (by simp [Value.category, cat_rf]) (Nat.le_of_ble_eq_true rfl) fun C O => ?_
  change cd_Go G l C _ 0 0 w 0 [some (.ref a), some (.int v)] []
  first | refine g_aload_n O 0 d_Fi_becomeLink_0 rfl rfl ?_ | refine g_aload_nq O 0 d_Fi_becomeLink_0 rfl rfl ?_
  refine g_iconst (v := 0) O d_Fi_becomeLink_1 (by decide) ?_
  refine g_putI O c_Fi 0 (by decide) rfl (by assumption) (Or.inl rfl) (Or.inl rfl) lk_Fi_19 d_Fi_becomeLink_2 ?_
  first | refine g_aload_n O 0 d_Fi_becomeLink_5 rfl rfl ?_ | refine g_aload_nq O 0 d_Fi_becomeLink_5 rfl rfl ?_
  refine g_iload_n O 1 d_Fi_becomeLink_6 rfl rfl ?_
  refine g_putI O c_Fi 1 (by decide) rfl (by assumption) (Or.inl rfl) (Or.inl rfl) lk_Fi_9 d_Fi_becomeLink_7 ?_
  first | refine g_aload_n O 0 d_Fi_becomeLink_10 rfl rfl ?_ | refine g_aload_nq O 0 d_Fi_becomeLink_10 rfl rfl ?_
  refine g_null O d_Fi_becomeLink_11 ?_
  first | refine g_putS O c_Fi 2 (by decide) rfl (by assumption) (Or.inl rfl) lk_Fi_15 d_Fi_becomeLink_12 ?_ | refine g_putO O c_Fi 2 (by decide) rfl (by assumption) (Or.inl rfl) lk_Fi_15 d_Fi_becomeLink_12 ?_
  refine g_ret O d_Fi_becomeLink_15 (Nat.le_of_ble_eq_true rfl) (Nat.le_of_ble_eq_true rfl) ?_
  exact h
set_option maxHeartbeats 4000000 in
set_option maxRecDepth 100000 in
theorem ct_Fi_becomeCapability {G : cd_Gl} {l : Launch} {w : cd_Wd} {Q : cd_Out → cd_Wd → Prop} {a c : Nat} (ha : cd_kd w a = 8) (h : Q (.inl none) (cd_fC w a c)) : cd_Ct G l y_Fi_becomeCapability 0 0 0 [.ref a, .ref c] w Q := by
  refine cd_ofW cw_Fi_becomeCapability (by simp [Value.category, cat_rf]) (Nat.le_of_ble_eq_true rfl) fun C O => ?_
  change cd_Go G l C _ 0 0 w 0 [some (.ref a), some (.ref c)] []
  first | refine g_aload_n O 0 d_Fi_becomeCapability_0 rfl rfl ?_ | refine g_aload_nq O 0 d_Fi_becomeCapability_0 rfl rfl ?_
  refine g_iconst (v := 0) O d_Fi_becomeCapability_1 (by decide) ?_
  refine g_putI O c_Fi 0 (by decide) rfl (by assumption) (Or.inl rfl) (Or.inl rfl) lk_Fi_19 d_Fi_becomeCapability_2 ?_
  first | refine g_aload_n O 0 d_Fi_becomeCapability_5 rfl rfl ?_ | refine g_aload_nq O 0 d_Fi_becomeCapability_5 rfl rfl ?_
  refine g_iconst (v := -1) O d_Fi_becomeCapability_6 (by decide) ?_
  refine g_putI O c_Fi 1 (by decide) rfl (by assumption) (Or.inl rfl) (Or.inl rfl) lk_Fi_9 d_Fi_becomeCapability_7 ?_
  first | refine g_aload_n O 0 d_Fi_becomeCapability_10 rfl rfl ?_ | refine g_aload_nq O 0 d_Fi_becomeCapability_10 rfl rfl ?_
  first | refine g_aload_n O 1 d_Fi_becomeCapability_11 rfl rfl ?_ | refine g_aload_nq O 1 d_Fi_becomeCapability_11 rfl rfl ?_
  first | refine g_putS O c_Fi 2 (by decide) rfl (by assumption) (Or.inl rfl) lk_Fi_15 d_Fi_becomeCapability_12 ?_ | refine g_putO O c_Fi 2 (by decide) rfl (by assumption) (Or.inl rfl) lk_Fi_15 d_Fi_becomeCapability_12 ?_
  refine g_ret O d_Fi_becomeCapability_15 (Nat.le_of_ble_eq_true rfl) (Nat.le_of_ble_eq_true rfl) ?_
  exact h
