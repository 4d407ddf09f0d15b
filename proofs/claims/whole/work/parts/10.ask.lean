def isD (σ : cd_S) (d : Int32) : Bool := decide (¬ d < 0) && decide (¬ nI (sD σ) ≤ d)
def isSl (s : Int32) : Bool := decide (¬ s < 0) && decide (¬ (8 : Int32) ≤ s)
def isFi (f : Int32) : Bool := decide (¬ f < 0) && decide (¬ (3 : Int32) ≤ f)
theorem isD_of {σ : cd_S} {d : Int32} (hs : sD σ ≤ 6) (h : isD σ d = true) : ∃ j : Nat, j < sD σ ∧ d = nI j := by
  simp only [isD, Bool.and_eq_true, decide_eq_true_eq] at h
  exact ix_of (by omega) h.1 h.2
theorem isSl_of {d : Int32} (h : isSl d = true) : ∃ j : Nat, j < 8 ∧ d = nI j := by
  simp only [isSl, Bool.and_eq_true, decide_eq_true_eq] at h
  exact ix_of (n := 8) (by omega) h.1 h.2
theorem isFi_of {d : Int32} (h : isFi d = true) : ∃ j : Nat, j < 3 ∧ d = nI j := by
  simp only [isFi, Bool.and_eq_true, decide_eq_true_eq] at h
  exact ix_of (n := 3) (by omega) h.1 h.2
theorem hasO_of {σ : cd_S} {d : Nat} {o : Int32} (h : hasO σ d o = true) : ∃ j : Nat, j < 12 ∧ o = nI j ∧ sT σ d j = true := by
  simp only [hasO, Bool.and_eq_true, decide_eq_true_eq] at h
  obtain ⟨j, hj, rfl⟩ := ix_of (n := 12) (by omega) h.1.1 h.1.2
  rw [nI_clamp (by omega)] at h
  exact ⟨j, hj, rfl, h.2⟩
theorem isD_nI {σ : cd_S} {j : Nat} (h : j < sD σ) (hs : sD σ ≤ 6) : isD σ (nI j) = true := by
  simp [isD, nI_pos (show j < 2 ^ 31 by omega), nI_ge h (show sD σ < 2 ^ 31 by omega)]
theorem isSl_nI {j : Nat} (h : j < 8) : isSl (nI j) = true := by
  have h1 : ¬ (8 : Int32) ≤ nI j := nI_ge (b := 8) h (by omega)
  simp [isSl, nI_pos (show j < 2 ^ 31 by omega), h1]
theorem cl_nI {j : Nat} (h : j < 2 ^ 31) : (nI j).toNatClampNeg = j := nI_clamp h
set_option maxHeartbeats 4000000 in
set_option maxRecDepth 100000 in
theorem ct_Do_hasObject {G : cd_Gl} {l : Launch} {w : cd_Wd} {Q : cd_Out → cd_Wd → Prop} {x : Nat} {A : cd_A} {σ : cd_S} (hR : cd_Rep w x A σ) {d : Nat} {o : Int32} (hd : d < sD σ) (h : Q (.inl (some (.int (cd_b (hasO σ d o))))) w) : cd_Ct G l y_Do_hasObject 0 0 0 [.ref (A 1 d 0 0), .int o] w Q := by
  refine cd_ofW cw_Do_hasObject (by simp [Value.category, cat_rf]) (Nat.le_of_ble_eq_true rfl) fun C O => ?_
  change cd_Go G l C _ 0 0 w 0 [some (.ref (A 1 d 0 0)), some (.int o)] []
  refine g_iload_n O 1 d_Do_hasObject_0 rfl rfl ?_
  refine g_if_lt O 26 d_Do_hasObject_1 (by decide) (fun c1 => ?_) (fun c1 => ?_)
  · rw [hasO_neg (Or.inl c1)] at h
    refine g_iconst (v := 0) O d_Do_hasObject_26 (by decide) ?_
    refine g_zret O d_Do_hasObject_27 (Or.inl rfl) (Nat.le_of_ble_eq_true rfl) (Nat.le_of_ble_eq_true rfl) ?_
    exact h
  · refine g_iload_n O 1 d_Do_hasObject_4 rfl rfl ?_
    refine g_bipush (v := 12) O d_Do_hasObject_5 (by decide) ?_
    refine g_icmp_ge O 26 d_Do_hasObject_7 (by decide) (fun c7 => ?_) (fun c7 => ?_)
    · rw [hasO_neg (Or.inr c7)] at h
      refine g_iconst (v := 0) O d_Do_hasObject_26 (by decide) ?_
      refine g_zret O d_Do_hasObject_27 (Or.inl rfl) (Nat.le_of_ble_eq_true rfl) (Nat.le_of_ble_eq_true rfl) ?_
      exact h
    · obtain ⟨j, hj, rfl⟩ := ix_of (n := 12) (by omega) c1 c7
      rw [hasO_nI hj] at h
      have q := hR.o hd hj
      first | refine g_aload_n O 0 d_Do_hasObject_10 rfl rfl ?_ | refine g_aload_nq O 0 d_Do_hasObject_10 rfl rfl ?_
      refine g_getS O c_Do 1 (by decide) rfl (hR.d hd).2.1 lk_Do_11 d_Do_hasObject_11 (hR.d hd).2.2.1 ?_
      refine g_iload_n O 1 d_Do_hasObject_14 rfl rfl ?_
      refine g_aaldS O 4 rfl rfl (hR.d hd).2.2.2.1 (by rw [(hR.d hd).2.2.2.2.1]; exact ix_in hj (by omega)) d_Do_hasObject_15 (by rw [nI_clamp (by omega)]; exact q.1) ?_
      refine g_getV O c_Ob 0 (by decide) rfl q.2.1 lk_Do_24 d_Do_hasObject_16 q.2.2.1 ?_
      refine g_if_eq O 26 d_Do_hasObject_19 (by decide) (fun c19 => ?_) (fun c19 => ?_)
      · rw [cd_b_eq.mp c19] at h
        refine g_iconst (v := 0) O d_Do_hasObject_26 (by decide) ?_
        refine g_zret O d_Do_hasObject_27 (by first | exact Or.inl rfl | exact Or.inr rfl | assumption) (Nat.le_of_ble_eq_true rfl) (Nat.le_of_ble_eq_true rfl) ?_
        exact h
      · rw [cd_b_ne.mp c19] at h
        refine g_iconst (v := 1) O d_Do_hasObject_22 (by decide) ?_
        refine g_goto O 27 d_Do_hasObject_23 (by decide) ?_
        refine g_zret O d_Do_hasObject_27 (by first | exact Or.inl rfl | exact Or.inr rfl | assumption) (Nat.le_of_ble_eq_true rfl) (Nat.le_of_ble_eq_true rfl) ?_
        exact h
def alw (σ : cd_S) (c : Nat) (r : Int32) : Bool := decide ((r &&& (kR σ c ^^^ (-1))) = 0)
set_option maxHeartbeats 4000000 in
set_option maxRecDepth 100000 in
theorem ct_Ca_allows {G : cd_Gl} {l : Launch} {w : cd_Wd} {Q : cd_Out → cd_Wd → Prop} {x : Nat} {A : cd_A} {σ : cd_S} (hR : cd_Rep w x A σ) {c : Nat} {r : Int32} (hc : c < sC σ) (h : Q (.inl (some (.int (cd_b (alw σ c r))))) w) : cd_Ct G l y_Ca_allows 0 0 0 [.ref (A 8 c 0 0), .int r] w Q := by
  refine cd_ofW cw_Ca_allows (by simp [Value.category, cat_rf]) (Nat.le_of_ble_eq_true rfl) fun C O => ?_
  change cd_Go G l C _ 0 0 w 0 [some (.ref (A 8 c 0 0)), some (.int r)] []
  refine g_iload_n O 1 d_Ca_allows_0 rfl rfl ?_
  first | refine g_aload_n O 0 d_Ca_allows_1 rfl rfl ?_ | refine g_aload_nq O 0 d_Ca_allows_1 rfl rfl ?_
  refine g_getV O c_Ca 3 (by decide) rfl (hR.c hc).2.1 lk_Ca_21 d_Ca_allows_2 (hR.c hc).2.2.2.2.2.1 ?_
  refine g_iconst (v := -1) O d_Ca_allows_5 (by decide) ?_
  refine g_ixor O d_Ca_allows_6 ?_
  refine g_iand O d_Ca_allows_7 ?_
  refine g_if_ne O 15 d_Ca_allows_8 (by decide) (fun c8 => ?_) (fun c8 => ?_)
  · rw [show alw σ c r = false from decide_eq_false c8] at h
    refine g_iconst (v := 0) O d_Ca_allows_15 (by decide) ?_
    refine g_zret O d_Ca_allows_16 (by first | exact Or.inl rfl | exact Or.inr rfl | assumption) (Nat.le_of_ble_eq_true rfl) (Nat.le_of_ble_eq_true rfl) ?_
    exact h
  · rw [show alw σ c r = true from decide_eq_true c8] at h
    refine g_iconst (v := 1) O d_Ca_allows_11 (by decide) ?_
    refine g_goto O 16 d_Ca_allows_12 (by decide) ?_
    refine g_zret O d_Ca_allows_16 (by first | exact Or.inl rfl | exact Or.inr rfl | assumption) (Nat.le_of_ble_eq_true rfl) (Nat.le_of_ble_eq_true rfl) ?_
    exact h
def die (σ : cd_S) (c : Nat) : Bool := kV σ c || sE σ (kH σ c) || !sT σ (kH σ c) (kT σ c) || (match kP σ c with
  | some p => kX σ p
  | none => false)
set_option maxHeartbeats 4000000 in
set_option maxRecDepth 100000 in
theorem ct_Ca_mustDie {G : cd_Gl} {l : Launch} {w : cd_Wd} {Q : cd_Out → cd_Wd → Prop} {x : Nat} {A : cd_A} {σ : cd_S} (hR : cd_Rep w x A σ) {c : Nat} (hc : c < sC σ) (h : Q (.inl (some (.int (cd_b (die σ c))))) w) : cd_Ct G l y_Ca_mustDie 1 0 0 [.ref (A 8 c 0 0)] w Q := by
  refine cd_ofW cw_Ca_mustDie (by simp [Value.category, cat_rf]) (Nat.le_of_ble_eq_true rfl) fun C O => ?_
  change cd_Go G l C _ 0 0 w 0 [some (.ref (A 8 c 0 0))] []
  have hw := hR.wf.2.2.2 c hc
  first | refine g_aload_n O 0 d_Ca_mustDie_0 rfl rfl ?_ | refine g_aload_nq O 0 d_Ca_mustDie_0 rfl rfl ?_
  refine g_getV O c_Ca 5 (by decide) rfl (hR.c hc).2.1 lk_Ca_27 d_Ca_mustDie_1 (hR.c hc).2.2.2.2.2.2.2.1 ?_
  refine g_if_ne O 48 d_Ca_mustDie_4 (by decide) (fun c4 => ?_) (fun c4 => ?_)
  · have e : die σ c = true := by simp_all [die, cd_b_ne, cd_b_eq]
    rw [e] at h
    refine g_iconst (v := 1) O d_Ca_mustDie_48 (by decide) ?_
    refine g_goto O 53 d_Ca_mustDie_49 (by decide) ?_
    refine g_zret O d_Ca_mustDie_53 (by first | exact Or.inl rfl | exact Or.inr rfl | assumption) (Nat.le_of_ble_eq_true rfl) (Nat.le_of_ble_eq_true rfl) ?_
    exact h
  · first | refine g_aload_n O 0 d_Ca_mustDie_7 rfl rfl ?_ | refine g_aload_nq O 0 d_Ca_mustDie_7 rfl rfl ?_
    refine g_getS O c_Ca 0 (by decide) rfl (hR.c hc).2.1 lk_Ca_7 d_Ca_mustDie_8 (hR.c hc).2.2.1 ?_
    refine g_getV O c_Do 0 (by decide) rfl (hR.d hw.1).2.1 lk_Ca_31 d_Ca_mustDie_11 (hR.d hw.1).2.2.2.2.2.2.2.2 ?_
    refine g_if_ne O 48 d_Ca_mustDie_14 (by decide) (fun c14 => ?_) (fun c14 => ?_)
    · have e : die σ c = true := by simp_all [die, cd_b_ne, cd_b_eq]
      rw [e] at h
      refine g_iconst (v := 1) O d_Ca_mustDie_48 (by decide) ?_
      refine g_goto O 53 d_Ca_mustDie_49 (by decide) ?_
      refine g_zret O d_Ca_mustDie_53 (by first | exact Or.inl rfl | exact Or.inr rfl | assumption) (Nat.le_of_ble_eq_true rfl) (Nat.le_of_ble_eq_true rfl) ?_
      exact h
    · first | refine g_aload_n O 0 d_Ca_mustDie_17 rfl rfl ?_ | refine g_aload_nq O 0 d_Ca_mustDie_17 rfl rfl ?_
      refine g_getS O c_Ca 0 (by decide) rfl (hR.c hc).2.1 lk_Ca_7 d_Ca_mustDie_18 (hR.c hc).2.2.1 ?_
      first | refine g_aload_n O 0 d_Ca_mustDie_21 rfl rfl ?_ | refine g_aload_nq O 0 d_Ca_mustDie_21 rfl rfl ?_
      refine g_getV O c_Ca 1 (by decide) rfl (hR.c hc).2.1 lk_Ca_13 d_Ca_mustDie_22 (hR.c hc).2.2.2.1 ?_
      refine g_callv (N := 0) (mc := 0) (ms := 0) (av := [_]) O (Or.inl ⟨_, _, cw_Do_hasObject⟩) pl_Do (ci := 1) (q := q_Do) rfl (hR.d hw.1).2.1 ml_Ca_36 im_Do_hasObject se_Do_hasObject rfl d_Ca_mustDie_25 rfl (Nat.le_of_ble_eq_true rfl) (Nat.le_of_ble_eq_true rfl) (Nat.le_of_ble_eq_true rfl) (Nat.le_of_ble_eq_true rfl) ?_
      refine ct_Do_hasObject hR hw.1 ?_
      change cd_Go _ _ _ _ _ _ _ _ _ _
      refine g_if_eq O 48 d_Ca_mustDie_28 (by decide) (fun c28 => ?_) (fun c28 => ?_)
      · rw [hasO_nI hw.2.1] at c28
        have e : die σ c = true := by simp_all [die, cd_b_ne, cd_b_eq]
        rw [e] at h
        refine g_iconst (v := 1) O d_Ca_mustDie_48 (by decide) ?_
        refine g_goto O 53 d_Ca_mustDie_49 (by decide) ?_
        refine g_zret O d_Ca_mustDie_53 (by first | exact Or.inl rfl | exact Or.inr rfl | assumption) (Nat.le_of_ble_eq_true rfl) (Nat.le_of_ble_eq_true rfl) ?_
        exact h
      · rw [hasO_nI hw.2.1] at c28
        first | refine g_aload_n O 0 d_Ca_mustDie_31 rfl rfl ?_ | refine g_aload_nq O 0 d_Ca_mustDie_31 rfl rfl ?_
        refine g_getOV O c_Ca 2 (by decide) rfl (hR.c hc).2.1 lk_Ca_17 d_Ca_mustDie_32 (hR.c hc).2.2.2.2.1 ?_
        refine g_ifnull O 52 d_Ca_mustDie_35 (by decide) (fun c35 => ?_) (fun x35 c35 => ?_)
        · have hp : kP σ c = none := by cases hz : kP σ c with
            | none => rfl
            | some p => rw [hz] at c35; cases c35
          have e : die σ c = false := by simp_all [die, cd_b_ne, cd_b_eq]
          rw [e] at h
          refine g_iconst (v := 0) O d_Ca_mustDie_52 (by decide) ?_
          refine g_zret O d_Ca_mustDie_53 (by first | exact Or.inl rfl | exact Or.inr rfl | assumption) (Nat.le_of_ble_eq_true rfl) (Nat.le_of_ble_eq_true rfl) ?_
          exact h
        · obtain ⟨p, hp⟩ : ∃ p, kP σ c = some p := by cases hz : kP σ c with
            | none => rw [hz] at c35; cases c35
            | some p => exact ⟨p, rfl⟩
          have hpc : p < sC σ := Nat.lt_trans (hw.2.2 p hp) hc
          first | refine g_aload_n O 0 d_Ca_mustDie_38 rfl rfl ?_ | refine g_aload_nq O 0 d_Ca_mustDie_38 rfl rfl ?_
          refine g_getS O c_Ca 2 (by decide) rfl (hR.c hc).2.1 lk_Ca_17 d_Ca_mustDie_39 (by rw [show cd_O w (32 * 4 + 2) (A 8 c 0 0) 0 = _ from (hR.c hc).2.2.2.2.1, hp]; rfl) ?_
          refine g_getV O c_Ca 6 (by decide) rfl (hR.c hpc).2.1 lk_Ca_40 d_Ca_mustDie_42 (hR.c hpc).2.2.2.2.2.2.2.2 ?_
          refine g_if_eq O 52 d_Ca_mustDie_45 (by decide) (fun c45 => ?_) (fun c45 => ?_)
          · have e : die σ c = false := by simp_all [die, cd_b_ne, cd_b_eq]
            rw [e] at h
            refine g_iconst (v := 0) O d_Ca_mustDie_52 (by decide) ?_
            refine g_zret O d_Ca_mustDie_53 (by first | exact Or.inl rfl | exact Or.inr rfl | assumption) (Nat.le_of_ble_eq_true rfl) (Nat.le_of_ble_eq_true rfl) ?_
            exact h
          · have e : die σ c = true := by simp_all [die, cd_b_ne, cd_b_eq]
            rw [e] at h
            refine g_iconst (v := 1) O d_Ca_mustDie_48 (by decide) ?_
            refine g_goto O 53 d_Ca_mustDie_49 (by decide) ?_
            refine g_zret O d_Ca_mustDie_53 (by first | exact Or.inl rfl | exact Or.inr rfl | assumption) (Nat.le_of_ble_eq_true rfl) (Nat.le_of_ble_eq_true rfl) ?_
            exact h
set_option maxHeartbeats 4000000 in
set_option maxRecDepth 100000 in
theorem ct_Cd_isDomain {G : cd_Gl} {l : Launch} {w : cd_Wd} {Q : cd_Out → cd_Wd → Prop} {x : Nat} {A : cd_A} {σ : cd_S} (hR : cd_Rep w x A σ) {d : Int32} (h : Q (.inl (some (.int (cd_b (isD σ d))))) w) : cd_Ct G l y_Cd_isDomain 0 0 0 [.ref x, .int d] w Q := by
  refine cd_ofW cw_Cd_isDomain (by simp [Value.category, cat_rf]) (Nat.le_of_ble_eq_true rfl) fun C O => ?_
  change cd_Go G l C _ 0 0 w 0 [some (.ref x), some (.int d)] []
  refine g_iload_n O 1 d_Cd_isDomain_0 rfl rfl ?_
  refine g_if_lt O 16 d_Cd_isDomain_1 (by decide) (fun c1 => ?_) (fun c1 => ?_)
  · refine g_iconst (v := 0) O d_Cd_isDomain_16 (by decide) ?_
    refine g_zret O d_Cd_isDomain_17 (by first | exact Or.inl rfl | exact Or.inr rfl | assumption) (Nat.le_of_ble_eq_true rfl) (Nat.le_of_ble_eq_true rfl) ?_
    first | (rw [show isD σ d = true from by simp [isD, *]] at h; exact h) | (rw [show isD σ d = false from by simp [isD, *]] at h; exact h)
  · refine g_iload_n O 1 d_Cd_isDomain_4 rfl rfl ?_
    first | refine g_aload_n O 0 d_Cd_isDomain_5 rfl rfl ?_ | refine g_aload_nq O 0 d_Cd_isDomain_5 rfl rfl ?_
    refine g_getV O c_Cd 1 (by decide) rfl hR.top.1 lk_Cd_28 d_Cd_isDomain_6 hR.top.2.2.2.2.2.2.2.2.2.2.2.2.2.2.2.2.2.2.1 ?_
    refine g_icmp_ge O 16 d_Cd_isDomain_9 (by decide) (fun c9 => ?_) (fun c9 => ?_)
    · refine g_iconst (v := 0) O d_Cd_isDomain_16 (by decide) ?_
      refine g_zret O d_Cd_isDomain_17 (by first | exact Or.inl rfl | exact Or.inr rfl | assumption) (Nat.le_of_ble_eq_true rfl) (Nat.le_of_ble_eq_true rfl) ?_
      first | (rw [show isD σ d = true from by simp [isD, *]] at h; exact h) | (rw [show isD σ d = false from by simp [isD, *]] at h; exact h)
    · refine g_iconst (v := 1) O d_Cd_isDomain_12 (by decide) ?_
      refine g_goto O 17 d_Cd_isDomain_13 (by decide) ?_
      refine g_zret O d_Cd_isDomain_17 (by first | exact Or.inl rfl | exact Or.inr rfl | assumption) (Nat.le_of_ble_eq_true rfl) (Nat.le_of_ble_eq_true rfl) ?_
      first | (rw [show isD σ d = true from by simp [isD, *]] at h; exact h) | (rw [show isD σ d = false from by simp [isD, *]] at h; exact h)
set_option maxHeartbeats 4000000 in
set_option maxRecDepth 100000 in
theorem ct_Cd_isSlot {G : cd_Gl} {l : Launch} {w : cd_Wd} {Q : cd_Out → cd_Wd → Prop} {s : Int32} (h : Q (.inl (some (.int (cd_b (isSl s))))) w) : cd_Ct G l y_Cd_isSlot 0 0 0 [.int s] w Q := by
  refine cd_ofW cw_Cd_isSlot (by simp [Value.category, cat_rf]) (Nat.le_of_ble_eq_true rfl) fun C O => ?_
  change cd_Go G l C _ 0 0 w 0 [some (.int s)] []
  refine g_iload_n O 0 d_Cd_isSlot_0 rfl rfl ?_
  refine g_if_lt O 14 d_Cd_isSlot_1 (by decide) (fun c1 => ?_) (fun c1 => ?_)
  · refine g_iconst (v := 0) O d_Cd_isSlot_14 (by decide) ?_
    refine g_zret O d_Cd_isSlot_15 (by first | exact Or.inl rfl | exact Or.inr rfl | assumption) (Nat.le_of_ble_eq_true rfl) (Nat.le_of_ble_eq_true rfl) ?_
    first | (rw [show isSl s = true from by simp [isSl, *]] at h; exact h) | (rw [show isSl s = false from by simp [isSl, *]] at h; exact h)
  · refine g_iload_n O 0 d_Cd_isSlot_4 rfl rfl ?_
    refine g_bipush (v := 8) O d_Cd_isSlot_5 (by decide) ?_
    refine g_icmp_ge O 14 d_Cd_isSlot_7 (by decide) (fun c7 => ?_) (fun c7 => ?_)
    · refine g_iconst (v := 0) O d_Cd_isSlot_14 (by decide) ?_
      refine g_zret O d_Cd_isSlot_15 (by first | exact Or.inl rfl | exact Or.inr rfl | assumption) (Nat.le_of_ble_eq_true rfl) (Nat.le_of_ble_eq_true rfl) ?_
      first | (rw [show isSl s = true from by simp [isSl, *]] at h; exact h) | (rw [show isSl s = false from by simp [isSl, *]] at h; exact h)
    · refine g_iconst (v := 1) O d_Cd_isSlot_10 (by decide) ?_
      refine g_goto O 15 d_Cd_isSlot_11 (by decide) ?_
      refine g_zret O d_Cd_isSlot_15 (by first | exact Or.inl rfl | exact Or.inr rfl | assumption) (Nat.le_of_ble_eq_true rfl) (Nat.le_of_ble_eq_true rfl) ?_
      first | (rw [show isSl s = true from by simp [isSl, *]] at h; exact h) | (rw [show isSl s = false from by simp [isSl, *]] at h; exact h)
