set_option maxHeartbeats 4000000 in
set_option maxRecDepth 100000 in
theorem law_c0 {G : cd_Gl} {l : Launch} {C : cd_Cx} {Z : State → Prop} (hst : l.stackTraces = false) (O : cd_Ok G y_La_law code 7 ret [] room_1 C) {b L : Nat} {xs : Nat → Int32} (hX : va_X b L xs (cx_s C) G.2.2) (hb : b < G.2.2.size) (hL : L ≤ 3072) {x m ou : Nat} {j : Nat} (hj : 6 * j + 6 ≤ L) {k n : Nat} (hk9 : k ≤ 100 + 64 * j) (hn9 : n ≤ 2000 + 200 * j) {w : cd_Wd} {A : cd_A} {B : Nat → Nat} {σ : cd_S} {g : Nat → Bool} (hJ : LJ w x m ou A B σ g)
    (tail : ∀ (k n : Nat) (w : cd_Wd) (A : cd_A) (B : Nat → Nat) (σ : cd_S) (g : Nat → Bool) (v5 v6 : Option Value), k ≤ 100 + 64 * (j + 1) → n ≤ 2000 + 200 * (j + 1) → LJ w x m ou A B σ g → cd_Go G l C Z k n w 1504 [some (.ref b), some (.ref x), some (.ref m), some (.ref ou), some (.int (nI (6 * j))), v5, v6] []) : cd_Go G l C Z k n w 132 [some (.ref b), some (.ref x), some (.ref m), some (.ref ou), some (.int (nI (6 * j))), none, none] [] := by
  first | refine g_aload_n O 1 d_La_law_132 rfl rfl ?_ | refine g_aload_nq O 1 d_La_law_132 rfl rfl ?_
  first | refine g_aload_n O 3 d_La_law_133 rfl rfl ?_ | refine g_aload_nq O 3 d_La_law_133 rfl rfl ?_
  refine g_calls (N := 7) (mc := 64) (ms := 200) (av := [_, _]) O (Or.inr ⟨_, _, _, cw_La_domain⟩) pl_La ml_La_76 st_La_domain in_La rfl d_La_law_134 rfl (Nat.le_of_ble_eq_true rfl) (Nat.le_of_ble_eq_true rfl) (by show _ ≤ 839478; omega) (by show _ ≤ 6577669; omega) ?_
  refine lw_domain hst hJ.1 hJ.2.2.2.1 hJ.2.2.2.2.1 hJ.2.2.2.2.2.1 hJ.2.2.2.2.2.2.2.1 rfl (fun w1 A1 hR1 hF1 hs1 hj1 => ?_)
  obtain ⟨hM1, hk1, hl1, hsp, hou1⟩ := hJ.cls hF1 hs1
  have hI2 := Iv_domain hJ.2.2.2.1 hJ.1.wf hJ.2.1.D6 hJ.2.2.1
  have hcd := cdn_domain σ
  generalize hS : sp_domain σ = r at hR1 hs1 hj1 hsp hou1 hI2 hcd ⊢
  obtain ⟨c, a, τ⟩ := r
  simp only at hR1 hs1 hj1 hsp hou1 hI2 hcd
  change cd_Go _ _ _ _ _ _ _ _ _ _
  refine g_istore O d_La_law_137 (Nat.le_of_ble_eq_true rfl) ?_
  first | refine g_aload_n O 2 d_La_law_139 rfl rfl ?_ | refine g_aload_nq O 2 d_La_law_139 rfl rfl ?_
  refine g_callv (N := 1) (mc := 0) (ms := 0) (av := []) O (Or.inl ⟨_, _, cw_Mo_domain⟩) pl_Mo (ci := 6) (q := q_Mo) rfl hM1.km ml_La_81 im_Mo_domain se_Mo_domain rfl d_La_law_140 rfl (Nat.le_of_ble_eq_true rfl) (Nat.le_of_ble_eq_true rfl) (by show _ ≤ 839478; omega) (by show _ ≤ 6577669; omega) ?_
  refine om_domain hM1 hJ.2.2.1 hJ.2.2.2.1 hS (fun w2 g2 v2 hM2 hL2 hF2 hc2 hv2 => ?_)
  simp only at hM2 hL2 hc2 hv2
  obtain ⟨hJ2, hj2⟩ := LJ.mod hR1 hk1 hl1 hsp hou1 hJ.2.2.2.2.2.2.2.2 hM2 hL2 hI2 hF2
  change cd_Go _ _ _ _ _ _ _ _ _ _
  refine g_istore O d_La_law_143 (Nat.le_of_ble_eq_true rfl) ?_
  first | refine g_aload_n O 2 d_La_law_145 rfl rfl ?_ | refine g_aload_nq O 2 d_La_law_145 rfl rfl ?_
  refine g_callv (N := 0) (mc := 0) (ms := 0) (av := []) O (Or.inl ⟨_, _, cw_Mo_thrown⟩) pl_Mo (ci := 6) (q := q_Mo) rfl hM2.km ml_La_82 im_Mo_thrown se_Mo_thrown rfl d_La_law_146 rfl (Nat.le_of_ble_eq_true rfl) (Nat.le_of_ble_eq_true rfl) (by show _ ≤ 839478; omega) (by show _ ≤ 6577669; omega) ?_
  refine ct_Mo_thrown hM2.km ?_
  rw [hc2]
  change cd_Go _ _ _ _ _ _ _ _ _ _
  refine g_iload O d_La_law_149 rfl ?_
  refine g_icmp_eq  O 156 d_La_law_151 (by decide) (fun c151 => ?_) (fun c151 => ?_)
  · refine g_iload O d_La_law_156 rfl ?_
    refine g_if_ne  O 173 d_La_law_158 (by decide) (fun c158 => ?_) (fun c158 => ?_)
    · refine g_goto O 1504 d_La_law_173 (by decide) ?_
      exact tail _ _ w2 A1 B τ g2 _ _ (by omega) (by omega) hJ2
    · have h0 : c = 0 := (nI_eq (b := 0) (by omega) (by omega)).mp c158
      have e9 : cd_J w2 ou (0 : Int32).toNatClampNeg = v2.toInt64 := by rw [show (0 : Int32).toNatClampNeg = 0 from by decide, hj2, hj1 h0, hv2 h0]
      first | refine g_aload_n O 3 d_La_law_161 rfl rfl ?_ | refine g_aload_nq O 3 d_La_law_161 rfl rfl ?_
      refine g_iconst (v := 0) O d_La_law_162 (by decide) ?_
      refine g_lald O 2 rfl rfl hJ2.2.2.2.2.1 (vin0 hJ2.2.2.2.2.2.1) d_La_law_163 ?_
      refine g_iload O d_La_law_164 rfl ?_
      refine g_i2l O d_La_law_166 rfl ?_
      refine g_lcmp O d_La_law_167 ?_
      refine g_if_eq  O 173 d_La_law_168 (by decide) (fun c168 => ?_) (fun c168 => ?_)
      · refine g_goto O 1504 d_La_law_173 (by decide) ?_
        exact tail _ _ w2 A1 B τ g2 _ _ (by omega) (by omega) hJ2
      · exact absurd (by rw [e9]; exact lg_self _) c168
  · exact absurd rfl c151
set_option maxHeartbeats 4000000 in
set_option maxRecDepth 100000 in
theorem law_c1 {G : cd_Gl} {l : Launch} {C : cd_Cx} {Z : State → Prop} (hst : l.stackTraces = false) (O : cd_Ok G y_La_law code 7 ret [] room_1 C) {b L : Nat} {xs : Nat → Int32} (hX : va_X b L xs (cx_s C) G.2.2) (hb : b < G.2.2.size) (hL : L ≤ 3072) {x m ou : Nat} {j : Nat} (hj : 6 * j + 6 ≤ L) {k n : Nat} (hk9 : k ≤ 100 + 64 * j) (hn9 : n ≤ 2000 + 200 * j) {w : cd_Wd} {A : cd_A} {B : Nat → Nat} {σ : cd_S} {g : Nat → Bool} (hJ : LJ w x m ou A B σ g)
    (tail : ∀ (k n : Nat) (w : cd_Wd) (A : cd_A) (B : Nat → Nat) (σ : cd_S) (g : Nat → Bool) (v5 v6 : Option Value), k ≤ 100 + 64 * (j + 1) → n ≤ 2000 + 200 * (j + 1) → LJ w x m ou A B σ g → cd_Go G l C Z k n w 1504 [some (.ref b), some (.ref x), some (.ref m), some (.ref ou), some (.int (nI (6 * j))), v5, v6] []) : cd_Go G l C Z k n w 176 [some (.ref b), some (.ref x), some (.ref m), some (.ref ou), some (.int (nI (6 * j))), none, none] [] := by
  first | refine g_aload_n O 1 d_La_law_176 rfl rfl ?_ | refine g_aload_nq O 1 d_La_law_176 rfl rfl ?_
  first | refine g_aload_n O 0 d_La_law_177 rfl rfl ?_ | refine g_aload_nq O 0 d_La_law_177 rfl rfl ?_
  refine g_iload O d_La_law_178 rfl ?_
  refine g_iconst (v := 1) O d_La_law_180 (by decide) ?_
  refine g_iadd O d_La_law_181 ?_
  rw [show nI (6 * j) + 1 = nI (6 * j + 1) from nI_add (6 * j) 1]
  refine g_sld O hX hb (ix_in (show 6 * j + 1 < L by omega) (by omega)) d_La_law_182 ?_
  first | refine g_aload_n O 3 d_La_law_183 rfl rfl ?_ | refine g_aload_nq O 3 d_La_law_183 rfl rfl ?_
  refine g_calls (N := 8) (mc := 2) (ms := 12) (av := [_, _, _]) O (Or.inr ⟨_, _, _, cw_La_object⟩) pl_La ml_La_85 st_La_object in_La rfl d_La_law_184 rfl (Nat.le_of_ble_eq_true rfl) (Nat.le_of_ble_eq_true rfl) (by show _ ≤ 839478; omega) (by show _ ≤ 6577669; omega) ?_
  refine lw_object hst hJ.1 hJ.2.2.2.1 hJ.2.2.2.2.1 hJ.2.2.2.2.2.1 hJ.2.2.2.2.2.2.2.1 rfl (fun w1 A1 hR1 hF1 hs1 hj1 => ?_)
  obtain ⟨hM1, hk1, hl1, hsp, hou1⟩ := hJ.cls hF1 hs1
  have hI2 := Iv_object hJ.2.2.2.1 hJ.1.wf hJ.2.1.D6 hJ.2.2.1 (xs (nI (6 * j + 1)).toNatClampNeg)
  have hcd := cdn_object σ (xs (nI (6 * j + 1)).toNatClampNeg)
  generalize hS : sp_object σ (xs (nI (6 * j + 1)).toNatClampNeg) = r at hR1 hs1 hj1 hsp hou1 hI2 hcd ⊢
  obtain ⟨c, a, τ⟩ := r
  simp only at hR1 hs1 hj1 hsp hou1 hI2 hcd
  change cd_Go _ _ _ _ _ _ _ _ _ _
  refine g_istore O d_La_law_187 (Nat.le_of_ble_eq_true rfl) ?_
  first | refine g_aload_n O 2 d_La_law_189 rfl rfl ?_ | refine g_aload_nq O 2 d_La_law_189 rfl rfl ?_
  first | refine g_aload_n O 0 d_La_law_190 rfl rfl ?_ | refine g_aload_nq O 0 d_La_law_190 rfl rfl ?_
  refine g_iload O d_La_law_191 rfl ?_
  refine g_iconst (v := 1) O d_La_law_193 (by decide) ?_
  refine g_iadd O d_La_law_194 ?_
  rw [show nI (6 * j) + 1 = nI (6 * j + 1) from nI_add (6 * j) 1]
  refine g_sld O hX hb (ix_in (show 6 * j + 1 < L by omega) (by omega)) d_La_law_195 ?_
  refine g_callv (N := 2) (mc := 0) (ms := 0) (av := [_]) O (Or.inl ⟨_, _, cw_Mo_object⟩) pl_Mo (ci := 6) (q := q_Mo) rfl hM1.km ml_La_88 im_Mo_object se_Mo_object rfl d_La_law_196 rfl (Nat.le_of_ble_eq_true rfl) (Nat.le_of_ble_eq_true rfl) (by show _ ≤ 839478; omega) (by show _ ≤ 6577669; omega) ?_
  refine om_object hM1 hJ.2.2.1 hJ.2.2.2.1 hS (fun w2 g2 v2 hM2 hL2 hF2 hc2 hv2 => ?_)
  simp only at hM2 hL2 hc2 hv2
  obtain ⟨hJ2, hj2⟩ := LJ.mod hR1 hk1 hl1 hsp hou1 hJ.2.2.2.2.2.2.2.2 hM2 hL2 hI2 hF2
  change cd_Go _ _ _ _ _ _ _ _ _ _
  refine g_istore O d_La_law_199 (Nat.le_of_ble_eq_true rfl) ?_
  first | refine g_aload_n O 2 d_La_law_201 rfl rfl ?_ | refine g_aload_nq O 2 d_La_law_201 rfl rfl ?_
  refine g_callv (N := 0) (mc := 0) (ms := 0) (av := []) O (Or.inl ⟨_, _, cw_Mo_thrown⟩) pl_Mo (ci := 6) (q := q_Mo) rfl hM2.km ml_La_82 im_Mo_thrown se_Mo_thrown rfl d_La_law_202 rfl (Nat.le_of_ble_eq_true rfl) (Nat.le_of_ble_eq_true rfl) (by show _ ≤ 839478; omega) (by show _ ≤ 6577669; omega) ?_
  refine ct_Mo_thrown hM2.km ?_
  rw [hc2]
  change cd_Go _ _ _ _ _ _ _ _ _ _
  refine g_iload O d_La_law_205 rfl ?_
  refine g_icmp_eq  O 212 d_La_law_207 (by decide) (fun c207 => ?_) (fun c207 => ?_)
  · refine g_iload O d_La_law_212 rfl ?_
    refine g_if_ne  O 229 d_La_law_214 (by decide) (fun c214 => ?_) (fun c214 => ?_)
    · refine g_goto O 1504 d_La_law_229 (by decide) ?_
      exact tail _ _ w2 A1 B τ g2 _ _ (by omega) (by omega) hJ2
    · have h0 : c = 0 := (nI_eq (b := 0) (by omega) (by omega)).mp c214
      have e9 : cd_J w2 ou (0 : Int32).toNatClampNeg = v2.toInt64 := by rw [show (0 : Int32).toNatClampNeg = 0 from by decide, hj2, hj1 h0, hv2 h0]
      first | refine g_aload_n O 3 d_La_law_217 rfl rfl ?_ | refine g_aload_nq O 3 d_La_law_217 rfl rfl ?_
      refine g_iconst (v := 0) O d_La_law_218 (by decide) ?_
      refine g_lald O 2 rfl rfl hJ2.2.2.2.2.1 (vin0 hJ2.2.2.2.2.2.1) d_La_law_219 ?_
      refine g_iload O d_La_law_220 rfl ?_
      refine g_i2l O d_La_law_222 rfl ?_
      refine g_lcmp O d_La_law_223 ?_
      refine g_if_eq  O 229 d_La_law_224 (by decide) (fun c224 => ?_) (fun c224 => ?_)
      · refine g_goto O 1504 d_La_law_229 (by decide) ?_
        exact tail _ _ w2 A1 B τ g2 _ _ (by omega) (by omega) hJ2
      · exact absurd (by rw [e9]; exact lg_self _) c224
  · exact absurd rfl c207
set_option maxHeartbeats 4000000 in
set_option maxRecDepth 100000 in
theorem law_c2 {G : cd_Gl} {l : Launch} {C : cd_Cx} {Z : State → Prop} (hst : l.stackTraces = false) (O : cd_Ok G y_La_law code 7 ret [] room_1 C) {b L : Nat} {xs : Nat → Int32} (hX : va_X b L xs (cx_s C) G.2.2) (hb : b < G.2.2.size) (hL : L ≤ 3072) {x m ou : Nat} {j : Nat} (hj : 6 * j + 6 ≤ L) {k n : Nat} (hk9 : k ≤ 100 + 64 * j) (hn9 : n ≤ 2000 + 200 * j) {w : cd_Wd} {A : cd_A} {B : Nat → Nat} {σ : cd_S} {g : Nat → Bool} (hJ : LJ w x m ou A B σ g)
    (tail : ∀ (k n : Nat) (w : cd_Wd) (A : cd_A) (B : Nat → Nat) (σ : cd_S) (g : Nat → Bool) (v5 v6 : Option Value), k ≤ 100 + 64 * (j + 1) → n ≤ 2000 + 200 * (j + 1) → LJ w x m ou A B σ g → cd_Go G l C Z k n w 1504 [some (.ref b), some (.ref x), some (.ref m), some (.ref ou), some (.int (nI (6 * j))), v5, v6] []) : cd_Go G l C Z k n w 232 [some (.ref b), some (.ref x), some (.ref m), some (.ref ou), some (.int (nI (6 * j))), none, none] [] := by
  first | refine g_aload_n O 1 d_La_law_232 rfl rfl ?_ | refine g_aload_nq O 1 d_La_law_232 rfl rfl ?_
  first | refine g_aload_n O 0 d_La_law_233 rfl rfl ?_ | refine g_aload_nq O 0 d_La_law_233 rfl rfl ?_
  refine g_iload O d_La_law_234 rfl ?_
  refine g_iconst (v := 1) O d_La_law_236 (by decide) ?_
  refine g_iadd O d_La_law_237 ?_
  rw [show nI (6 * j) + 1 = nI (6 * j + 1) from nI_add (6 * j) 1]
  refine g_sld O hX hb (ix_in (show 6 * j + 1 < L by omega) (by omega)) d_La_law_238 ?_
  first | refine g_aload_n O 0 d_La_law_239 rfl rfl ?_ | refine g_aload_nq O 0 d_La_law_239 rfl rfl ?_
  refine g_iload O d_La_law_240 rfl ?_
  refine g_iconst (v := 2) O d_La_law_242 (by decide) ?_
  refine g_iadd O d_La_law_243 ?_
  rw [show nI (6 * j) + 2 = nI (6 * j + 2) from nI_add (6 * j) 2]
  refine g_sld O hX hb (ix_in (show 6 * j + 2 < L by omega) (by omega)) d_La_law_244 ?_
  first | refine g_aload_n O 0 d_La_law_245 rfl rfl ?_ | refine g_aload_nq O 0 d_La_law_245 rfl rfl ?_
  refine g_iload O d_La_law_246 rfl ?_
  refine g_iconst (v := 3) O d_La_law_248 (by decide) ?_
  refine g_iadd O d_La_law_249 ?_
  rw [show nI (6 * j) + 3 = nI (6 * j + 3) from nI_add (6 * j) 3]
  refine g_sld O hX hb (ix_in (show 6 * j + 3 < L by omega) (by omega)) d_La_law_250 ?_
  first | refine g_aload_n O 0 d_La_law_251 rfl rfl ?_ | refine g_aload_nq O 0 d_La_law_251 rfl rfl ?_
  refine g_iload O d_La_law_252 rfl ?_
  refine g_iconst (v := 4) O d_La_law_254 (by decide) ?_
  refine g_iadd O d_La_law_255 ?_
  rw [show nI (6 * j) + 4 = nI (6 * j + 4) from nI_add (6 * j) 4]
  refine g_sld O hX hb (ix_in (show 6 * j + 4 < L by omega) (by omega)) d_La_law_256 ?_
  first | refine g_aload_n O 3 d_La_law_257 rfl rfl ?_ | refine g_aload_nq O 3 d_La_law_257 rfl rfl ?_
  refine g_calls (N := 8) (mc := 2) (ms := 12) (av := [_, _, _, _, _, _]) O (Or.inr ⟨_, _, _, cw_La_set⟩) pl_La ml_La_89 st_La_set in_La rfl d_La_law_258 rfl (Nat.le_of_ble_eq_true rfl) (Nat.le_of_ble_eq_true rfl) (by show _ ≤ 839478; omega) (by show _ ≤ 6577669; omega) ?_
  refine lw_set hst hJ.1 hJ.2.2.2.1 hJ.2.2.2.2.1 hJ.2.2.2.2.2.1 hJ.2.2.2.2.2.2.2.1 rfl (fun w1 A1 hR1 hF1 hs1 hj1 => ?_)
  obtain ⟨hM1, hk1, hl1, hsp, hou1⟩ := hJ.cls hF1 hs1
  have hI2 := Iv_set hJ.2.2.2.1 hJ.1.wf hJ.2.1.D6 hJ.2.2.1 (xs (nI (6 * j + 1)).toNatClampNeg) (xs (nI (6 * j + 2)).toNatClampNeg) (xs (nI (6 * j + 3)).toNatClampNeg) (xs (nI (6 * j + 4)).toNatClampNeg)
  have hcd := cdn_set σ (xs (nI (6 * j + 1)).toNatClampNeg) (xs (nI (6 * j + 2)).toNatClampNeg) (xs (nI (6 * j + 3)).toNatClampNeg) (xs (nI (6 * j + 4)).toNatClampNeg)
  generalize hS : sp_set σ (xs (nI (6 * j + 1)).toNatClampNeg) (xs (nI (6 * j + 2)).toNatClampNeg) (xs (nI (6 * j + 3)).toNatClampNeg) (xs (nI (6 * j + 4)).toNatClampNeg) = r at hR1 hs1 hj1 hsp hou1 hI2 hcd ⊢
  obtain ⟨c, a, τ⟩ := r
  simp only at hR1 hs1 hj1 hsp hou1 hI2 hcd
  change cd_Go _ _ _ _ _ _ _ _ _ _
  refine g_istore O d_La_law_261 (Nat.le_of_ble_eq_true rfl) ?_
  first | refine g_aload_n O 2 d_La_law_263 rfl rfl ?_ | refine g_aload_nq O 2 d_La_law_263 rfl rfl ?_
  first | refine g_aload_n O 0 d_La_law_264 rfl rfl ?_ | refine g_aload_nq O 0 d_La_law_264 rfl rfl ?_
  refine g_iload O d_La_law_265 rfl ?_
  refine g_iconst (v := 1) O d_La_law_267 (by decide) ?_
  refine g_iadd O d_La_law_268 ?_
  rw [show nI (6 * j) + 1 = nI (6 * j + 1) from nI_add (6 * j) 1]
  refine g_sld O hX hb (ix_in (show 6 * j + 1 < L by omega) (by omega)) d_La_law_269 ?_
  first | refine g_aload_n O 0 d_La_law_270 rfl rfl ?_ | refine g_aload_nq O 0 d_La_law_270 rfl rfl ?_
  refine g_iload O d_La_law_271 rfl ?_
  refine g_iconst (v := 2) O d_La_law_273 (by decide) ?_
  refine g_iadd O d_La_law_274 ?_
  rw [show nI (6 * j) + 2 = nI (6 * j + 2) from nI_add (6 * j) 2]
  refine g_sld O hX hb (ix_in (show 6 * j + 2 < L by omega) (by omega)) d_La_law_275 ?_
  first | refine g_aload_n O 0 d_La_law_276 rfl rfl ?_ | refine g_aload_nq O 0 d_La_law_276 rfl rfl ?_
  refine g_iload O d_La_law_277 rfl ?_
  refine g_iconst (v := 3) O d_La_law_279 (by decide) ?_
  refine g_iadd O d_La_law_280 ?_
  rw [show nI (6 * j) + 3 = nI (6 * j + 3) from nI_add (6 * j) 3]
  refine g_sld O hX hb (ix_in (show 6 * j + 3 < L by omega) (by omega)) d_La_law_281 ?_
  first | refine g_aload_n O 0 d_La_law_282 rfl rfl ?_ | refine g_aload_nq O 0 d_La_law_282 rfl rfl ?_
  refine g_iload O d_La_law_283 rfl ?_
  refine g_iconst (v := 4) O d_La_law_285 (by decide) ?_
  refine g_iadd O d_La_law_286 ?_
  rw [show nI (6 * j) + 4 = nI (6 * j + 4) from nI_add (6 * j) 4]
  refine g_sld O hX hb (ix_in (show 6 * j + 4 < L by omega) (by omega)) d_La_law_287 ?_
  refine g_callv (N := 2) (mc := 0) (ms := 0) (av := [_, _, _, _]) O (Or.inl ⟨_, _, cw_Mo_set⟩) pl_Mo (ci := 6) (q := q_Mo) rfl hM1.km ml_La_92 im_Mo_set se_Mo_set rfl d_La_law_288 rfl (Nat.le_of_ble_eq_true rfl) (Nat.le_of_ble_eq_true rfl) (by show _ ≤ 839478; omega) (by show _ ≤ 6577669; omega) ?_
  refine om_set hM1 hJ.2.2.1 hJ.2.2.2.1 hS (fun w2 g2 v2 hM2 hL2 hF2 hc2 hv2 => ?_)
  simp only at hM2 hL2 hc2 hv2
  obtain ⟨hJ2, hj2⟩ := LJ.mod hR1 hk1 hl1 hsp hou1 hJ.2.2.2.2.2.2.2.2 hM2 hL2 hI2 hF2
  change cd_Go _ _ _ _ _ _ _ _ _ _
  refine g_istore O d_La_law_291 (Nat.le_of_ble_eq_true rfl) ?_
  first | refine g_aload_n O 2 d_La_law_293 rfl rfl ?_ | refine g_aload_nq O 2 d_La_law_293 rfl rfl ?_
  refine g_callv (N := 0) (mc := 0) (ms := 0) (av := []) O (Or.inl ⟨_, _, cw_Mo_thrown⟩) pl_Mo (ci := 6) (q := q_Mo) rfl hM2.km ml_La_82 im_Mo_thrown se_Mo_thrown rfl d_La_law_294 rfl (Nat.le_of_ble_eq_true rfl) (Nat.le_of_ble_eq_true rfl) (by show _ ≤ 839478; omega) (by show _ ≤ 6577669; omega) ?_
  refine ct_Mo_thrown hM2.km ?_
  rw [hc2]
  change cd_Go _ _ _ _ _ _ _ _ _ _
  refine g_iload O d_La_law_297 rfl ?_
  refine g_icmp_eq  O 304 d_La_law_299 (by decide) (fun c299 => ?_) (fun c299 => ?_)
  · refine g_iload O d_La_law_304 rfl ?_
    refine g_if_ne  O 321 d_La_law_306 (by decide) (fun c306 => ?_) (fun c306 => ?_)
    · refine g_goto O 1504 d_La_law_321 (by decide) ?_
      exact tail _ _ w2 A1 B τ g2 _ _ (by omega) (by omega) hJ2
    · have h0 : c = 0 := (nI_eq (b := 0) (by omega) (by omega)).mp c306
      have e9 : cd_J w2 ou (0 : Int32).toNatClampNeg = v2.toInt64 := by rw [show (0 : Int32).toNatClampNeg = 0 from by decide, hj2, hj1 h0, hv2 h0]
      first | refine g_aload_n O 3 d_La_law_309 rfl rfl ?_ | refine g_aload_nq O 3 d_La_law_309 rfl rfl ?_
      refine g_iconst (v := 0) O d_La_law_310 (by decide) ?_
      refine g_lald O 2 rfl rfl hJ2.2.2.2.2.1 (vin0 hJ2.2.2.2.2.2.1) d_La_law_311 ?_
      refine g_iload O d_La_law_312 rfl ?_
      refine g_i2l O d_La_law_314 rfl ?_
      refine g_lcmp O d_La_law_315 ?_
      refine g_if_eq  O 321 d_La_law_316 (by decide) (fun c316 => ?_) (fun c316 => ?_)
      · refine g_goto O 1504 d_La_law_321 (by decide) ?_
        exact tail _ _ w2 A1 B τ g2 _ _ (by omega) (by omega) hJ2
      · exact absurd (by rw [e9]; exact lg_self _) c316
  · exact absurd rfl c299
set_option maxHeartbeats 4000000 in
set_option maxRecDepth 100000 in
theorem law_c3 {G : cd_Gl} {l : Launch} {C : cd_Cx} {Z : State → Prop} (hst : l.stackTraces = false) (O : cd_Ok G y_La_law code 7 ret [] room_1 C) {b L : Nat} {xs : Nat → Int32} (hX : va_X b L xs (cx_s C) G.2.2) (hb : b < G.2.2.size) (hL : L ≤ 3072) {x m ou : Nat} {j : Nat} (hj : 6 * j + 6 ≤ L) {k n : Nat} (hk9 : k ≤ 100 + 64 * j) (hn9 : n ≤ 2000 + 200 * j) {w : cd_Wd} {A : cd_A} {B : Nat → Nat} {σ : cd_S} {g : Nat → Bool} (hJ : LJ w x m ou A B σ g)
    (tail : ∀ (k n : Nat) (w : cd_Wd) (A : cd_A) (B : Nat → Nat) (σ : cd_S) (g : Nat → Bool) (v5 v6 : Option Value), k ≤ 100 + 64 * (j + 1) → n ≤ 2000 + 200 * (j + 1) → LJ w x m ou A B σ g → cd_Go G l C Z k n w 1504 [some (.ref b), some (.ref x), some (.ref m), some (.ref ou), some (.int (nI (6 * j))), v5, v6] []) : cd_Go G l C Z k n w 324 [some (.ref b), some (.ref x), some (.ref m), some (.ref ou), some (.int (nI (6 * j))), none, none] [] := by
  first | refine g_aload_n O 1 d_La_law_324 rfl rfl ?_ | refine g_aload_nq O 1 d_La_law_324 rfl rfl ?_
  first | refine g_aload_n O 0 d_La_law_325 rfl rfl ?_ | refine g_aload_nq O 0 d_La_law_325 rfl rfl ?_
  refine g_iload O d_La_law_326 rfl ?_
  refine g_iconst (v := 1) O d_La_law_328 (by decide) ?_
  refine g_iadd O d_La_law_329 ?_
  rw [show nI (6 * j) + 1 = nI (6 * j + 1) from nI_add (6 * j) 1]
  refine g_sld O hX hb (ix_in (show 6 * j + 1 < L by omega) (by omega)) d_La_law_330 ?_
  first | refine g_aload_n O 0 d_La_law_331 rfl rfl ?_ | refine g_aload_nq O 0 d_La_law_331 rfl rfl ?_
  refine g_iload O d_La_law_332 rfl ?_
  refine g_iconst (v := 2) O d_La_law_334 (by decide) ?_
  refine g_iadd O d_La_law_335 ?_
  rw [show nI (6 * j) + 2 = nI (6 * j + 2) from nI_add (6 * j) 2]
  refine g_sld O hX hb (ix_in (show 6 * j + 2 < L by omega) (by omega)) d_La_law_336 ?_
  first | refine g_aload_n O 0 d_La_law_337 rfl rfl ?_ | refine g_aload_nq O 0 d_La_law_337 rfl rfl ?_
  refine g_iload O d_La_law_338 rfl ?_
  refine g_iconst (v := 3) O d_La_law_340 (by decide) ?_
  refine g_iadd O d_La_law_341 ?_
  rw [show nI (6 * j) + 3 = nI (6 * j + 3) from nI_add (6 * j) 3]
  refine g_sld O hX hb (ix_in (show 6 * j + 3 < L by omega) (by omega)) d_La_law_342 ?_
  first | refine g_aload_n O 0 d_La_law_343 rfl rfl ?_ | refine g_aload_nq O 0 d_La_law_343 rfl rfl ?_
  refine g_iload O d_La_law_344 rfl ?_
  refine g_iconst (v := 4) O d_La_law_346 (by decide) ?_
  refine g_iadd O d_La_law_347 ?_
  rw [show nI (6 * j) + 4 = nI (6 * j + 4) from nI_add (6 * j) 4]
  refine g_sld O hX hb (ix_in (show 6 * j + 4 < L by omega) (by omega)) d_La_law_348 ?_
  first | refine g_aload_n O 3 d_La_law_349 rfl rfl ?_ | refine g_aload_nq O 3 d_La_law_349 rfl rfl ?_
  refine g_calls (N := 8) (mc := 3) (ms := 18) (av := [_, _, _, _, _, _]) O (Or.inr ⟨_, _, _, cw_La_link⟩) pl_La ml_La_93 st_La_link in_La rfl d_La_law_350 rfl (Nat.le_of_ble_eq_true rfl) (Nat.le_of_ble_eq_true rfl) (by show _ ≤ 839478; omega) (by show _ ≤ 6577669; omega) ?_
  refine lw_link hst hJ.1 hJ.2.2.2.1 hJ.2.2.2.2.1 hJ.2.2.2.2.2.1 hJ.2.2.2.2.2.2.2.1 rfl (fun w1 A1 hR1 hF1 hs1 hj1 => ?_)
  obtain ⟨hM1, hk1, hl1, hsp, hou1⟩ := hJ.cls hF1 hs1
  have hI2 := Iv_link hJ.2.2.2.1 hJ.1.wf hJ.2.1.D6 hJ.2.2.1 (xs (nI (6 * j + 1)).toNatClampNeg) (xs (nI (6 * j + 2)).toNatClampNeg) (xs (nI (6 * j + 3)).toNatClampNeg) (xs (nI (6 * j + 4)).toNatClampNeg)
  have hcd := cdn_link σ (xs (nI (6 * j + 1)).toNatClampNeg) (xs (nI (6 * j + 2)).toNatClampNeg) (xs (nI (6 * j + 3)).toNatClampNeg) (xs (nI (6 * j + 4)).toNatClampNeg)
  generalize hS : sp_link σ (xs (nI (6 * j + 1)).toNatClampNeg) (xs (nI (6 * j + 2)).toNatClampNeg) (xs (nI (6 * j + 3)).toNatClampNeg) (xs (nI (6 * j + 4)).toNatClampNeg) = r at hR1 hs1 hj1 hsp hou1 hI2 hcd ⊢
  obtain ⟨c, a, τ⟩ := r
  simp only at hR1 hs1 hj1 hsp hou1 hI2 hcd
  change cd_Go _ _ _ _ _ _ _ _ _ _
  refine g_istore O d_La_law_353 (Nat.le_of_ble_eq_true rfl) ?_
  first | refine g_aload_n O 2 d_La_law_355 rfl rfl ?_ | refine g_aload_nq O 2 d_La_law_355 rfl rfl ?_
  first | refine g_aload_n O 0 d_La_law_356 rfl rfl ?_ | refine g_aload_nq O 0 d_La_law_356 rfl rfl ?_
  refine g_iload O d_La_law_357 rfl ?_
  refine g_iconst (v := 1) O d_La_law_359 (by decide) ?_
  refine g_iadd O d_La_law_360 ?_
  rw [show nI (6 * j) + 1 = nI (6 * j + 1) from nI_add (6 * j) 1]
  refine g_sld O hX hb (ix_in (show 6 * j + 1 < L by omega) (by omega)) d_La_law_361 ?_
  first | refine g_aload_n O 0 d_La_law_362 rfl rfl ?_ | refine g_aload_nq O 0 d_La_law_362 rfl rfl ?_
  refine g_iload O d_La_law_363 rfl ?_
  refine g_iconst (v := 2) O d_La_law_365 (by decide) ?_
  refine g_iadd O d_La_law_366 ?_
  rw [show nI (6 * j) + 2 = nI (6 * j + 2) from nI_add (6 * j) 2]
  refine g_sld O hX hb (ix_in (show 6 * j + 2 < L by omega) (by omega)) d_La_law_367 ?_
  first | refine g_aload_n O 0 d_La_law_368 rfl rfl ?_ | refine g_aload_nq O 0 d_La_law_368 rfl rfl ?_
  refine g_iload O d_La_law_369 rfl ?_
  refine g_iconst (v := 3) O d_La_law_371 (by decide) ?_
  refine g_iadd O d_La_law_372 ?_
  rw [show nI (6 * j) + 3 = nI (6 * j + 3) from nI_add (6 * j) 3]
  refine g_sld O hX hb (ix_in (show 6 * j + 3 < L by omega) (by omega)) d_La_law_373 ?_
  first | refine g_aload_n O 0 d_La_law_374 rfl rfl ?_ | refine g_aload_nq O 0 d_La_law_374 rfl rfl ?_
  refine g_iload O d_La_law_375 rfl ?_
  refine g_iconst (v := 4) O d_La_law_377 (by decide) ?_
  refine g_iadd O d_La_law_378 ?_
  rw [show nI (6 * j) + 4 = nI (6 * j + 4) from nI_add (6 * j) 4]
  refine g_sld O hX hb (ix_in (show 6 * j + 4 < L by omega) (by omega)) d_La_law_379 ?_
  refine g_callv (N := 2) (mc := 0) (ms := 0) (av := [_, _, _, _]) O (Or.inl ⟨_, _, cw_Mo_link⟩) pl_Mo (ci := 6) (q := q_Mo) rfl hM1.km ml_La_95 im_Mo_link se_Mo_link rfl d_La_law_380 rfl (Nat.le_of_ble_eq_true rfl) (Nat.le_of_ble_eq_true rfl) (by show _ ≤ 839478; omega) (by show _ ≤ 6577669; omega) ?_
  refine om_link hM1 hJ.2.2.1 hJ.2.2.2.1 hS (fun w2 g2 v2 hM2 hL2 hF2 hc2 hv2 => ?_)
  simp only at hM2 hL2 hc2 hv2
  obtain ⟨hJ2, hj2⟩ := LJ.mod hR1 hk1 hl1 hsp hou1 hJ.2.2.2.2.2.2.2.2 hM2 hL2 hI2 hF2
  change cd_Go _ _ _ _ _ _ _ _ _ _
  refine g_istore O d_La_law_383 (Nat.le_of_ble_eq_true rfl) ?_
  first | refine g_aload_n O 2 d_La_law_385 rfl rfl ?_ | refine g_aload_nq O 2 d_La_law_385 rfl rfl ?_
  refine g_callv (N := 0) (mc := 0) (ms := 0) (av := []) O (Or.inl ⟨_, _, cw_Mo_thrown⟩) pl_Mo (ci := 6) (q := q_Mo) rfl hM2.km ml_La_82 im_Mo_thrown se_Mo_thrown rfl d_La_law_386 rfl (Nat.le_of_ble_eq_true rfl) (Nat.le_of_ble_eq_true rfl) (by show _ ≤ 839478; omega) (by show _ ≤ 6577669; omega) ?_
  refine ct_Mo_thrown hM2.km ?_
  rw [hc2]
  change cd_Go _ _ _ _ _ _ _ _ _ _
  refine g_iload O d_La_law_389 rfl ?_
  refine g_icmp_eq  O 396 d_La_law_391 (by decide) (fun c391 => ?_) (fun c391 => ?_)
  · refine g_iload O d_La_law_396 rfl ?_
    refine g_if_ne  O 413 d_La_law_398 (by decide) (fun c398 => ?_) (fun c398 => ?_)
    · refine g_goto O 1504 d_La_law_413 (by decide) ?_
      exact tail _ _ w2 A1 B τ g2 _ _ (by omega) (by omega) hJ2
    · have h0 : c = 0 := (nI_eq (b := 0) (by omega) (by omega)).mp c398
      have e9 : cd_J w2 ou (0 : Int32).toNatClampNeg = v2.toInt64 := by rw [show (0 : Int32).toNatClampNeg = 0 from by decide, hj2, hj1 h0, hv2 h0]
      first | refine g_aload_n O 3 d_La_law_401 rfl rfl ?_ | refine g_aload_nq O 3 d_La_law_401 rfl rfl ?_
      refine g_iconst (v := 0) O d_La_law_402 (by decide) ?_
      refine g_lald O 2 rfl rfl hJ2.2.2.2.2.1 (vin0 hJ2.2.2.2.2.2.1) d_La_law_403 ?_
      refine g_iload O d_La_law_404 rfl ?_
      refine g_i2l O d_La_law_406 rfl ?_
      refine g_lcmp O d_La_law_407 ?_
      refine g_if_eq  O 413 d_La_law_408 (by decide) (fun c408 => ?_) (fun c408 => ?_)
      · refine g_goto O 1504 d_La_law_413 (by decide) ?_
        exact tail _ _ w2 A1 B τ g2 _ _ (by omega) (by omega) hJ2
      · exact absurd (by rw [e9]; exact lg_self _) c408
  · exact absurd rfl c391
set_option maxHeartbeats 4000000 in
set_option maxRecDepth 100000 in
theorem law_c4 {G : cd_Gl} {l : Launch} {C : cd_Cx} {Z : State → Prop} (hst : l.stackTraces = false) (O : cd_Ok G y_La_law code 7 ret [] room_1 C) {b L : Nat} {xs : Nat → Int32} (hX : va_X b L xs (cx_s C) G.2.2) (hb : b < G.2.2.size) (hL : L ≤ 3072) {x m ou : Nat} {j : Nat} (hj : 6 * j + 6 ≤ L) {k n : Nat} (hk9 : k ≤ 100 + 64 * j) (hn9 : n ≤ 2000 + 200 * j) {w : cd_Wd} {A : cd_A} {B : Nat → Nat} {σ : cd_S} {g : Nat → Bool} (hJ : LJ w x m ou A B σ g)
    (tail : ∀ (k n : Nat) (w : cd_Wd) (A : cd_A) (B : Nat → Nat) (σ : cd_S) (g : Nat → Bool) (v5 v6 : Option Value), k ≤ 100 + 64 * (j + 1) → n ≤ 2000 + 200 * (j + 1) → LJ w x m ou A B σ g → cd_Go G l C Z k n w 1504 [some (.ref b), some (.ref x), some (.ref m), some (.ref ou), some (.int (nI (6 * j))), v5, v6] []) : cd_Go G l C Z k n w 416 [some (.ref b), some (.ref x), some (.ref m), some (.ref ou), some (.int (nI (6 * j))), none, none] [] := by
  first | refine g_aload_n O 1 d_La_law_416 rfl rfl ?_ | refine g_aload_nq O 1 d_La_law_416 rfl rfl ?_
  first | refine g_aload_n O 0 d_La_law_417 rfl rfl ?_ | refine g_aload_nq O 0 d_La_law_417 rfl rfl ?_
  refine g_iload O d_La_law_418 rfl ?_
  refine g_iconst (v := 1) O d_La_law_420 (by decide) ?_
  refine g_iadd O d_La_law_421 ?_
  rw [show nI (6 * j) + 1 = nI (6 * j + 1) from nI_add (6 * j) 1]
  refine g_sld O hX hb (ix_in (show 6 * j + 1 < L by omega) (by omega)) d_La_law_422 ?_
  first | refine g_aload_n O 0 d_La_law_423 rfl rfl ?_ | refine g_aload_nq O 0 d_La_law_423 rfl rfl ?_
  refine g_iload O d_La_law_424 rfl ?_
  refine g_iconst (v := 2) O d_La_law_426 (by decide) ?_
  refine g_iadd O d_La_law_427 ?_
  rw [show nI (6 * j) + 2 = nI (6 * j + 2) from nI_add (6 * j) 2]
  refine g_sld O hX hb (ix_in (show 6 * j + 2 < L by omega) (by omega)) d_La_law_428 ?_
  first | refine g_aload_n O 0 d_La_law_429 rfl rfl ?_ | refine g_aload_nq O 0 d_La_law_429 rfl rfl ?_
  refine g_iload O d_La_law_430 rfl ?_
  refine g_iconst (v := 3) O d_La_law_432 (by decide) ?_
  refine g_iadd O d_La_law_433 ?_
  rw [show nI (6 * j) + 3 = nI (6 * j + 3) from nI_add (6 * j) 3]
  refine g_sld O hX hb (ix_in (show 6 * j + 3 < L by omega) (by omega)) d_La_law_434 ?_
  first | refine g_aload_n O 0 d_La_law_435 rfl rfl ?_ | refine g_aload_nq O 0 d_La_law_435 rfl rfl ?_
  refine g_iload O d_La_law_436 rfl ?_
  refine g_iconst (v := 4) O d_La_law_438 (by decide) ?_
  refine g_iadd O d_La_law_439 ?_
  rw [show nI (6 * j) + 4 = nI (6 * j + 4) from nI_add (6 * j) 4]
  refine g_sld O hX hb (ix_in (show 6 * j + 4 < L by omega) (by omega)) d_La_law_440 ?_
  first | refine g_aload_n O 3 d_La_law_441 rfl rfl ?_ | refine g_aload_nq O 3 d_La_law_441 rfl rfl ?_
  refine g_calls (N := 8) (mc := 4) (ms := 24) (av := [_, _, _, _, _, _]) O (Or.inr ⟨_, _, _, cw_La_hold⟩) pl_La ml_La_96 st_La_hold in_La rfl d_La_law_442 rfl (Nat.le_of_ble_eq_true rfl) (Nat.le_of_ble_eq_true rfl) (by show _ ≤ 839478; omega) (by show _ ≤ 6577669; omega) ?_
  refine lw_hold hst hJ.1 hJ.2.2.2.1 hJ.2.2.2.2.1 hJ.2.2.2.2.2.1 hJ.2.2.2.2.2.2.2.1 rfl (fun w1 A1 hR1 hF1 hs1 hj1 => ?_)
  obtain ⟨hM1, hk1, hl1, hsp, hou1⟩ := hJ.cls hF1 hs1
  have hI2 := Iv_hold hJ.2.2.2.1 hJ.1.wf hJ.2.1.D6 hJ.2.2.1 (xs (nI (6 * j + 1)).toNatClampNeg) (xs (nI (6 * j + 2)).toNatClampNeg) (xs (nI (6 * j + 3)).toNatClampNeg) (xs (nI (6 * j + 4)).toNatClampNeg)
  have hcd := cdn_hold σ (xs (nI (6 * j + 1)).toNatClampNeg) (xs (nI (6 * j + 2)).toNatClampNeg) (xs (nI (6 * j + 3)).toNatClampNeg) (xs (nI (6 * j + 4)).toNatClampNeg)
  generalize hS : sp_hold σ (xs (nI (6 * j + 1)).toNatClampNeg) (xs (nI (6 * j + 2)).toNatClampNeg) (xs (nI (6 * j + 3)).toNatClampNeg) (xs (nI (6 * j + 4)).toNatClampNeg) = r at hR1 hs1 hj1 hsp hou1 hI2 hcd ⊢
  obtain ⟨c, a, τ⟩ := r
  simp only at hR1 hs1 hj1 hsp hou1 hI2 hcd
  change cd_Go _ _ _ _ _ _ _ _ _ _
  refine g_istore O d_La_law_445 (Nat.le_of_ble_eq_true rfl) ?_
  first | refine g_aload_n O 2 d_La_law_447 rfl rfl ?_ | refine g_aload_nq O 2 d_La_law_447 rfl rfl ?_
  first | refine g_aload_n O 0 d_La_law_448 rfl rfl ?_ | refine g_aload_nq O 0 d_La_law_448 rfl rfl ?_
  refine g_iload O d_La_law_449 rfl ?_
  refine g_iconst (v := 1) O d_La_law_451 (by decide) ?_
  refine g_iadd O d_La_law_452 ?_
  rw [show nI (6 * j) + 1 = nI (6 * j + 1) from nI_add (6 * j) 1]
  refine g_sld O hX hb (ix_in (show 6 * j + 1 < L by omega) (by omega)) d_La_law_453 ?_
  first | refine g_aload_n O 0 d_La_law_454 rfl rfl ?_ | refine g_aload_nq O 0 d_La_law_454 rfl rfl ?_
  refine g_iload O d_La_law_455 rfl ?_
  refine g_iconst (v := 2) O d_La_law_457 (by decide) ?_
  refine g_iadd O d_La_law_458 ?_
  rw [show nI (6 * j) + 2 = nI (6 * j + 2) from nI_add (6 * j) 2]
  refine g_sld O hX hb (ix_in (show 6 * j + 2 < L by omega) (by omega)) d_La_law_459 ?_
  first | refine g_aload_n O 0 d_La_law_460 rfl rfl ?_ | refine g_aload_nq O 0 d_La_law_460 rfl rfl ?_
  refine g_iload O d_La_law_461 rfl ?_
  refine g_iconst (v := 3) O d_La_law_463 (by decide) ?_
  refine g_iadd O d_La_law_464 ?_
  rw [show nI (6 * j) + 3 = nI (6 * j + 3) from nI_add (6 * j) 3]
  refine g_sld O hX hb (ix_in (show 6 * j + 3 < L by omega) (by omega)) d_La_law_465 ?_
  first | refine g_aload_n O 0 d_La_law_466 rfl rfl ?_ | refine g_aload_nq O 0 d_La_law_466 rfl rfl ?_
  refine g_iload O d_La_law_467 rfl ?_
  refine g_iconst (v := 4) O d_La_law_469 (by decide) ?_
  refine g_iadd O d_La_law_470 ?_
  rw [show nI (6 * j) + 4 = nI (6 * j + 4) from nI_add (6 * j) 4]
  refine g_sld O hX hb (ix_in (show 6 * j + 4 < L by omega) (by omega)) d_La_law_471 ?_
  refine g_callv (N := 2) (mc := 0) (ms := 0) (av := [_, _, _, _]) O (Or.inl ⟨_, _, cw_Mo_hold⟩) pl_Mo (ci := 6) (q := q_Mo) rfl hM1.km ml_La_98 im_Mo_hold se_Mo_hold rfl d_La_law_472 rfl (Nat.le_of_ble_eq_true rfl) (Nat.le_of_ble_eq_true rfl) (by show _ ≤ 839478; omega) (by show _ ≤ 6577669; omega) ?_
  refine om_hold hM1 hJ.2.2.1 hJ.2.2.2.1 hS (fun w2 g2 v2 hM2 hL2 hF2 hc2 hv2 => ?_)
  simp only at hM2 hL2 hc2 hv2
  obtain ⟨hJ2, hj2⟩ := LJ.mod hR1 hk1 hl1 hsp hou1 hJ.2.2.2.2.2.2.2.2 hM2 hL2 hI2 hF2
  change cd_Go _ _ _ _ _ _ _ _ _ _
  refine g_istore O d_La_law_475 (Nat.le_of_ble_eq_true rfl) ?_
  first | refine g_aload_n O 2 d_La_law_477 rfl rfl ?_ | refine g_aload_nq O 2 d_La_law_477 rfl rfl ?_
  refine g_callv (N := 0) (mc := 0) (ms := 0) (av := []) O (Or.inl ⟨_, _, cw_Mo_thrown⟩) pl_Mo (ci := 6) (q := q_Mo) rfl hM2.km ml_La_82 im_Mo_thrown se_Mo_thrown rfl d_La_law_478 rfl (Nat.le_of_ble_eq_true rfl) (Nat.le_of_ble_eq_true rfl) (by show _ ≤ 839478; omega) (by show _ ≤ 6577669; omega) ?_
  refine ct_Mo_thrown hM2.km ?_
  rw [hc2]
  change cd_Go _ _ _ _ _ _ _ _ _ _
  refine g_iload O d_La_law_481 rfl ?_
  refine g_icmp_eq  O 488 d_La_law_483 (by decide) (fun c483 => ?_) (fun c483 => ?_)
  · refine g_iload O d_La_law_488 rfl ?_
    refine g_if_ne  O 505 d_La_law_490 (by decide) (fun c490 => ?_) (fun c490 => ?_)
    · refine g_goto O 1504 d_La_law_505 (by decide) ?_
      exact tail _ _ w2 A1 B τ g2 _ _ (by omega) (by omega) hJ2
    · have h0 : c = 0 := (nI_eq (b := 0) (by omega) (by omega)).mp c490
      have e9 : cd_J w2 ou (0 : Int32).toNatClampNeg = v2.toInt64 := by rw [show (0 : Int32).toNatClampNeg = 0 from by decide, hj2, hj1 h0, hv2 h0]
      first | refine g_aload_n O 3 d_La_law_493 rfl rfl ?_ | refine g_aload_nq O 3 d_La_law_493 rfl rfl ?_
      refine g_iconst (v := 0) O d_La_law_494 (by decide) ?_
      refine g_lald O 2 rfl rfl hJ2.2.2.2.2.1 (vin0 hJ2.2.2.2.2.2.1) d_La_law_495 ?_
      refine g_iload O d_La_law_496 rfl ?_
      refine g_i2l O d_La_law_498 rfl ?_
      refine g_lcmp O d_La_law_499 ?_
      refine g_if_eq  O 505 d_La_law_500 (by decide) (fun c500 => ?_) (fun c500 => ?_)
      · refine g_goto O 1504 d_La_law_505 (by decide) ?_
        exact tail _ _ w2 A1 B τ g2 _ _ (by omega) (by omega) hJ2
      · exact absurd (by rw [e9]; exact lg_self _) c500
  · exact absurd rfl c483
set_option maxHeartbeats 4000000 in
set_option maxRecDepth 100000 in
theorem law_c5 {G : cd_Gl} {l : Launch} {C : cd_Cx} {Z : State → Prop} (hst : l.stackTraces = false) (O : cd_Ok G y_La_law code 7 ret [] room_1 C) {b L : Nat} {xs : Nat → Int32} (hX : va_X b L xs (cx_s C) G.2.2) (hb : b < G.2.2.size) (hL : L ≤ 3072) {x m ou : Nat} {j : Nat} (hj : 6 * j + 6 ≤ L) {k n : Nat} (hk9 : k ≤ 100 + 64 * j) (hn9 : n ≤ 2000 + 200 * j) {w : cd_Wd} {A : cd_A} {B : Nat → Nat} {σ : cd_S} {g : Nat → Bool} (hJ : LJ w x m ou A B σ g)
    (tail : ∀ (k n : Nat) (w : cd_Wd) (A : cd_A) (B : Nat → Nat) (σ : cd_S) (g : Nat → Bool) (v5 v6 : Option Value), k ≤ 100 + 64 * (j + 1) → n ≤ 2000 + 200 * (j + 1) → LJ w x m ou A B σ g → cd_Go G l C Z k n w 1504 [some (.ref b), some (.ref x), some (.ref m), some (.ref ou), some (.int (nI (6 * j))), v5, v6] []) : cd_Go G l C Z k n w 508 [some (.ref b), some (.ref x), some (.ref m), some (.ref ou), some (.int (nI (6 * j))), none, none] [] := by
  first | refine g_aload_n O 1 d_La_law_508 rfl rfl ?_ | refine g_aload_nq O 1 d_La_law_508 rfl rfl ?_
  first | refine g_aload_n O 0 d_La_law_509 rfl rfl ?_ | refine g_aload_nq O 0 d_La_law_509 rfl rfl ?_
  refine g_iload O d_La_law_510 rfl ?_
  refine g_iconst (v := 1) O d_La_law_512 (by decide) ?_
  refine g_iadd O d_La_law_513 ?_
  rw [show nI (6 * j) + 1 = nI (6 * j + 1) from nI_add (6 * j) 1]
  refine g_sld O hX hb (ix_in (show 6 * j + 1 < L by omega) (by omega)) d_La_law_514 ?_
  first | refine g_aload_n O 0 d_La_law_515 rfl rfl ?_ | refine g_aload_nq O 0 d_La_law_515 rfl rfl ?_
  refine g_iload O d_La_law_516 rfl ?_
  refine g_iconst (v := 2) O d_La_law_518 (by decide) ?_
  refine g_iadd O d_La_law_519 ?_
  rw [show nI (6 * j) + 2 = nI (6 * j + 2) from nI_add (6 * j) 2]
  refine g_sld O hX hb (ix_in (show 6 * j + 2 < L by omega) (by omega)) d_La_law_520 ?_
  first | refine g_aload_n O 0 d_La_law_521 rfl rfl ?_ | refine g_aload_nq O 0 d_La_law_521 rfl rfl ?_
  refine g_iload O d_La_law_522 rfl ?_
  refine g_iconst (v := 3) O d_La_law_524 (by decide) ?_
  refine g_iadd O d_La_law_525 ?_
  rw [show nI (6 * j) + 3 = nI (6 * j + 3) from nI_add (6 * j) 3]
  refine g_sld O hX hb (ix_in (show 6 * j + 3 < L by omega) (by omega)) d_La_law_526 ?_
  first | refine g_aload_n O 0 d_La_law_527 rfl rfl ?_ | refine g_aload_nq O 0 d_La_law_527 rfl rfl ?_
  refine g_iload O d_La_law_528 rfl ?_
  refine g_iconst (v := 4) O d_La_law_530 (by decide) ?_
  refine g_iadd O d_La_law_531 ?_
  rw [show nI (6 * j) + 4 = nI (6 * j + 4) from nI_add (6 * j) 4]
  refine g_sld O hX hb (ix_in (show 6 * j + 4 < L by omega) (by omega)) d_La_law_532 ?_
  first | refine g_aload_n O 0 d_La_law_533 rfl rfl ?_ | refine g_aload_nq O 0 d_La_law_533 rfl rfl ?_
  refine g_iload O d_La_law_534 rfl ?_
  refine g_iconst (v := 5) O d_La_law_536 (by decide) ?_
  refine g_iadd O d_La_law_537 ?_
  rw [show nI (6 * j) + 5 = nI (6 * j + 5) from nI_add (6 * j) 5]
  refine g_sld O hX hb (ix_in (show 6 * j + 5 < L by omega) (by omega)) d_La_law_538 ?_
  first | refine g_aload_n O 3 d_La_law_539 rfl rfl ?_ | refine g_aload_nq O 3 d_La_law_539 rfl rfl ?_
  refine g_calls (N := 8) (mc := 6) (ms := 37) (av := [_, _, _, _, _, _, _]) O (Or.inr ⟨_, _, _, cw_La_export⟩) pl_La ml_La_99 st_La_export in_La rfl d_La_law_540 rfl (Nat.le_of_ble_eq_true rfl) (Nat.le_of_ble_eq_true rfl) (by show _ ≤ 839478; omega) (by show _ ≤ 6577669; omega) ?_
  refine lw_export hst hJ.1 hJ.2.2.2.1 hJ.2.2.2.2.1 hJ.2.2.2.2.2.1 hJ.2.2.2.2.2.2.2.1 rfl (fun w1 A1 hR1 hF1 hs1 hj1 => ?_)
  obtain ⟨hM1, hk1, hl1, hsp, hou1⟩ := hJ.cls hF1 hs1
  have hI2 := Iv_export hJ.2.2.2.1 hJ.1.wf hJ.2.1.D6 hJ.2.2.1 (xs (nI (6 * j + 1)).toNatClampNeg) (xs (nI (6 * j + 2)).toNatClampNeg) (xs (nI (6 * j + 3)).toNatClampNeg) (xs (nI (6 * j + 4)).toNatClampNeg) (xs (nI (6 * j + 5)).toNatClampNeg)
  have hcd := cdn_export σ (xs (nI (6 * j + 1)).toNatClampNeg) (xs (nI (6 * j + 2)).toNatClampNeg) (xs (nI (6 * j + 3)).toNatClampNeg) (xs (nI (6 * j + 4)).toNatClampNeg) (xs (nI (6 * j + 5)).toNatClampNeg)
  generalize hS : sp_export σ (xs (nI (6 * j + 1)).toNatClampNeg) (xs (nI (6 * j + 2)).toNatClampNeg) (xs (nI (6 * j + 3)).toNatClampNeg) (xs (nI (6 * j + 4)).toNatClampNeg) (xs (nI (6 * j + 5)).toNatClampNeg) = r at hR1 hs1 hj1 hsp hou1 hI2 hcd ⊢
  obtain ⟨c, a, τ⟩ := r
  simp only at hR1 hs1 hj1 hsp hou1 hI2 hcd
  change cd_Go _ _ _ _ _ _ _ _ _ _
  refine g_istore O d_La_law_543 (Nat.le_of_ble_eq_true rfl) ?_
  first | refine g_aload_n O 2 d_La_law_545 rfl rfl ?_ | refine g_aload_nq O 2 d_La_law_545 rfl rfl ?_
  first | refine g_aload_n O 0 d_La_law_546 rfl rfl ?_ | refine g_aload_nq O 0 d_La_law_546 rfl rfl ?_
  refine g_iload O d_La_law_547 rfl ?_
  refine g_iconst (v := 1) O d_La_law_549 (by decide) ?_
  refine g_iadd O d_La_law_550 ?_
  rw [show nI (6 * j) + 1 = nI (6 * j + 1) from nI_add (6 * j) 1]
  refine g_sld O hX hb (ix_in (show 6 * j + 1 < L by omega) (by omega)) d_La_law_551 ?_
  first | refine g_aload_n O 0 d_La_law_552 rfl rfl ?_ | refine g_aload_nq O 0 d_La_law_552 rfl rfl ?_
  refine g_iload O d_La_law_553 rfl ?_
  refine g_iconst (v := 2) O d_La_law_555 (by decide) ?_
  refine g_iadd O d_La_law_556 ?_
  rw [show nI (6 * j) + 2 = nI (6 * j + 2) from nI_add (6 * j) 2]
  refine g_sld O hX hb (ix_in (show 6 * j + 2 < L by omega) (by omega)) d_La_law_557 ?_
  first | refine g_aload_n O 0 d_La_law_558 rfl rfl ?_ | refine g_aload_nq O 0 d_La_law_558 rfl rfl ?_
  refine g_iload O d_La_law_559 rfl ?_
  refine g_iconst (v := 3) O d_La_law_561 (by decide) ?_
  refine g_iadd O d_La_law_562 ?_
  rw [show nI (6 * j) + 3 = nI (6 * j + 3) from nI_add (6 * j) 3]
  refine g_sld O hX hb (ix_in (show 6 * j + 3 < L by omega) (by omega)) d_La_law_563 ?_
  first | refine g_aload_n O 0 d_La_law_564 rfl rfl ?_ | refine g_aload_nq O 0 d_La_law_564 rfl rfl ?_
  refine g_iload O d_La_law_565 rfl ?_
  refine g_iconst (v := 4) O d_La_law_567 (by decide) ?_
  refine g_iadd O d_La_law_568 ?_
  rw [show nI (6 * j) + 4 = nI (6 * j + 4) from nI_add (6 * j) 4]
  refine g_sld O hX hb (ix_in (show 6 * j + 4 < L by omega) (by omega)) d_La_law_569 ?_
  first | refine g_aload_n O 0 d_La_law_570 rfl rfl ?_ | refine g_aload_nq O 0 d_La_law_570 rfl rfl ?_
  refine g_iload O d_La_law_571 rfl ?_
  refine g_iconst (v := 5) O d_La_law_573 (by decide) ?_
  refine g_iadd O d_La_law_574 ?_
  rw [show nI (6 * j) + 5 = nI (6 * j + 5) from nI_add (6 * j) 5]
  refine g_sld O hX hb (ix_in (show 6 * j + 5 < L by omega) (by omega)) d_La_law_575 ?_
  refine g_callv (N := 2) (mc := 0) (ms := 0) (av := [_, _, _, _, _]) O (Or.inl ⟨_, _, cw_Mo_export⟩) pl_Mo (ci := 6) (q := q_Mo) rfl hM1.km ml_La_102 im_Mo_export se_Mo_export rfl d_La_law_576 rfl (Nat.le_of_ble_eq_true rfl) (Nat.le_of_ble_eq_true rfl) (by show _ ≤ 839478; omega) (by show _ ≤ 6577669; omega) ?_
  refine om_export hM1 hJ.2.2.1 hJ.2.2.2.1 hS (fun w2 g2 v2 hM2 hL2 hF2 hc2 hv2 => ?_)
  simp only at hM2 hL2 hc2 hv2
  obtain ⟨hJ2, hj2⟩ := LJ.mod hR1 hk1 hl1 hsp hou1 hJ.2.2.2.2.2.2.2.2 hM2 hL2 hI2 hF2
  change cd_Go _ _ _ _ _ _ _ _ _ _
  refine g_istore O d_La_law_579 (Nat.le_of_ble_eq_true rfl) ?_
  first | refine g_aload_n O 2 d_La_law_581 rfl rfl ?_ | refine g_aload_nq O 2 d_La_law_581 rfl rfl ?_
  refine g_callv (N := 0) (mc := 0) (ms := 0) (av := []) O (Or.inl ⟨_, _, cw_Mo_thrown⟩) pl_Mo (ci := 6) (q := q_Mo) rfl hM2.km ml_La_82 im_Mo_thrown se_Mo_thrown rfl d_La_law_582 rfl (Nat.le_of_ble_eq_true rfl) (Nat.le_of_ble_eq_true rfl) (by show _ ≤ 839478; omega) (by show _ ≤ 6577669; omega) ?_
  refine ct_Mo_thrown hM2.km ?_
  rw [hc2]
  change cd_Go _ _ _ _ _ _ _ _ _ _
  refine g_iload O d_La_law_585 rfl ?_
  refine g_icmp_eq  O 592 d_La_law_587 (by decide) (fun c587 => ?_) (fun c587 => ?_)
  · refine g_iload O d_La_law_592 rfl ?_
    refine g_if_ne  O 609 d_La_law_594 (by decide) (fun c594 => ?_) (fun c594 => ?_)
    · refine g_goto O 1504 d_La_law_609 (by decide) ?_
      exact tail _ _ w2 A1 B τ g2 _ _ (by omega) (by omega) hJ2
    · have h0 : c = 0 := (nI_eq (b := 0) (by omega) (by omega)).mp c594
      have e9 : cd_J w2 ou (0 : Int32).toNatClampNeg = v2.toInt64 := by rw [show (0 : Int32).toNatClampNeg = 0 from by decide, hj2, hj1 h0, hv2 h0]
      first | refine g_aload_n O 3 d_La_law_597 rfl rfl ?_ | refine g_aload_nq O 3 d_La_law_597 rfl rfl ?_
      refine g_iconst (v := 0) O d_La_law_598 (by decide) ?_
      refine g_lald O 2 rfl rfl hJ2.2.2.2.2.1 (vin0 hJ2.2.2.2.2.2.1) d_La_law_599 ?_
      refine g_iload O d_La_law_600 rfl ?_
      refine g_i2l O d_La_law_602 rfl ?_
      refine g_lcmp O d_La_law_603 ?_
      refine g_if_eq  O 609 d_La_law_604 (by decide) (fun c604 => ?_) (fun c604 => ?_)
      · refine g_goto O 1504 d_La_law_609 (by decide) ?_
        exact tail _ _ w2 A1 B τ g2 _ _ (by omega) (by omega) hJ2
      · exact absurd (by rw [e9]; exact lg_self _) c604
  · exact absurd rfl c587
set_option maxHeartbeats 4000000 in
set_option maxRecDepth 100000 in
theorem law_c6 {G : cd_Gl} {l : Launch} {C : cd_Cx} {Z : State → Prop} (hst : l.stackTraces = false) (O : cd_Ok G y_La_law code 7 ret [] room_1 C) {b L : Nat} {xs : Nat → Int32} (hX : va_X b L xs (cx_s C) G.2.2) (hb : b < G.2.2.size) (hL : L ≤ 3072) {x m ou : Nat} {j : Nat} (hj : 6 * j + 6 ≤ L) {k n : Nat} (hk9 : k ≤ 100 + 64 * j) (hn9 : n ≤ 2000 + 200 * j) {w : cd_Wd} {A : cd_A} {B : Nat → Nat} {σ : cd_S} {g : Nat → Bool} (hJ : LJ w x m ou A B σ g)
    (tail : ∀ (k n : Nat) (w : cd_Wd) (A : cd_A) (B : Nat → Nat) (σ : cd_S) (g : Nat → Bool) (v5 v6 : Option Value), k ≤ 100 + 64 * (j + 1) → n ≤ 2000 + 200 * (j + 1) → LJ w x m ou A B σ g → cd_Go G l C Z k n w 1504 [some (.ref b), some (.ref x), some (.ref m), some (.ref ou), some (.int (nI (6 * j))), v5, v6] []) : cd_Go G l C Z k n w 612 [some (.ref b), some (.ref x), some (.ref m), some (.ref ou), some (.int (nI (6 * j))), none, none] [] := by
  first | refine g_aload_n O 1 d_La_law_612 rfl rfl ?_ | refine g_aload_nq O 1 d_La_law_612 rfl rfl ?_
  first | refine g_aload_n O 0 d_La_law_613 rfl rfl ?_ | refine g_aload_nq O 0 d_La_law_613 rfl rfl ?_
  refine g_iload O d_La_law_614 rfl ?_
  refine g_iconst (v := 1) O d_La_law_616 (by decide) ?_
  refine g_iadd O d_La_law_617 ?_
  rw [show nI (6 * j) + 1 = nI (6 * j + 1) from nI_add (6 * j) 1]
  refine g_sld O hX hb (ix_in (show 6 * j + 1 < L by omega) (by omega)) d_La_law_618 ?_
  first | refine g_aload_n O 0 d_La_law_619 rfl rfl ?_ | refine g_aload_nq O 0 d_La_law_619 rfl rfl ?_
  refine g_iload O d_La_law_620 rfl ?_
  refine g_iconst (v := 2) O d_La_law_622 (by decide) ?_
  refine g_iadd O d_La_law_623 ?_
  rw [show nI (6 * j) + 2 = nI (6 * j + 2) from nI_add (6 * j) 2]
  refine g_sld O hX hb (ix_in (show 6 * j + 2 < L by omega) (by omega)) d_La_law_624 ?_
  first | refine g_aload_n O 0 d_La_law_625 rfl rfl ?_ | refine g_aload_nq O 0 d_La_law_625 rfl rfl ?_
  refine g_iload O d_La_law_626 rfl ?_
  refine g_iconst (v := 3) O d_La_law_628 (by decide) ?_
  refine g_iadd O d_La_law_629 ?_
  rw [show nI (6 * j) + 3 = nI (6 * j + 3) from nI_add (6 * j) 3]
  refine g_sld O hX hb (ix_in (show 6 * j + 3 < L by omega) (by omega)) d_La_law_630 ?_
  first | refine g_aload_n O 0 d_La_law_631 rfl rfl ?_ | refine g_aload_nq O 0 d_La_law_631 rfl rfl ?_
  refine g_iload O d_La_law_632 rfl ?_
  refine g_iconst (v := 4) O d_La_law_634 (by decide) ?_
  refine g_iadd O d_La_law_635 ?_
  rw [show nI (6 * j) + 4 = nI (6 * j + 4) from nI_add (6 * j) 4]
  refine g_sld O hX hb (ix_in (show 6 * j + 4 < L by omega) (by omega)) d_La_law_636 ?_
  first | refine g_aload_n O 3 d_La_law_637 rfl rfl ?_ | refine g_aload_nq O 3 d_La_law_637 rfl rfl ?_
  refine g_calls (N := 8) (mc := 6) (ms := 37) (av := [_, _, _, _, _, _]) O (Or.inr ⟨_, _, _, cw_La_narrow⟩) pl_La ml_La_103 st_La_narrow in_La rfl d_La_law_638 rfl (Nat.le_of_ble_eq_true rfl) (Nat.le_of_ble_eq_true rfl) (by show _ ≤ 839478; omega) (by show _ ≤ 6577669; omega) ?_
  refine lw_narrow hst hJ.1 hJ.2.2.2.1 hJ.2.2.2.2.1 hJ.2.2.2.2.2.1 hJ.2.2.2.2.2.2.2.1 rfl (fun w1 A1 hR1 hF1 hs1 hj1 => ?_)
  obtain ⟨hM1, hk1, hl1, hsp, hou1⟩ := hJ.cls hF1 hs1
  have hI2 := Iv_narrow hJ.2.2.2.1 hJ.1.wf hJ.2.1.D6 hJ.2.2.1 (xs (nI (6 * j + 1)).toNatClampNeg) (xs (nI (6 * j + 2)).toNatClampNeg) (xs (nI (6 * j + 3)).toNatClampNeg) (xs (nI (6 * j + 4)).toNatClampNeg)
  have hcd := cdn_narrow σ (xs (nI (6 * j + 1)).toNatClampNeg) (xs (nI (6 * j + 2)).toNatClampNeg) (xs (nI (6 * j + 3)).toNatClampNeg) (xs (nI (6 * j + 4)).toNatClampNeg)
  generalize hS : sp_narrow σ (xs (nI (6 * j + 1)).toNatClampNeg) (xs (nI (6 * j + 2)).toNatClampNeg) (xs (nI (6 * j + 3)).toNatClampNeg) (xs (nI (6 * j + 4)).toNatClampNeg) = r at hR1 hs1 hj1 hsp hou1 hI2 hcd ⊢
  obtain ⟨c, a, τ⟩ := r
  simp only at hR1 hs1 hj1 hsp hou1 hI2 hcd
  change cd_Go _ _ _ _ _ _ _ _ _ _
  refine g_istore O d_La_law_641 (Nat.le_of_ble_eq_true rfl) ?_
  first | refine g_aload_n O 2 d_La_law_643 rfl rfl ?_ | refine g_aload_nq O 2 d_La_law_643 rfl rfl ?_
  first | refine g_aload_n O 0 d_La_law_644 rfl rfl ?_ | refine g_aload_nq O 0 d_La_law_644 rfl rfl ?_
  refine g_iload O d_La_law_645 rfl ?_
  refine g_iconst (v := 1) O d_La_law_647 (by decide) ?_
  refine g_iadd O d_La_law_648 ?_
  rw [show nI (6 * j) + 1 = nI (6 * j + 1) from nI_add (6 * j) 1]
  refine g_sld O hX hb (ix_in (show 6 * j + 1 < L by omega) (by omega)) d_La_law_649 ?_
  first | refine g_aload_n O 0 d_La_law_650 rfl rfl ?_ | refine g_aload_nq O 0 d_La_law_650 rfl rfl ?_
  refine g_iload O d_La_law_651 rfl ?_
  refine g_iconst (v := 2) O d_La_law_653 (by decide) ?_
  refine g_iadd O d_La_law_654 ?_
  rw [show nI (6 * j) + 2 = nI (6 * j + 2) from nI_add (6 * j) 2]
  refine g_sld O hX hb (ix_in (show 6 * j + 2 < L by omega) (by omega)) d_La_law_655 ?_
  first | refine g_aload_n O 0 d_La_law_656 rfl rfl ?_ | refine g_aload_nq O 0 d_La_law_656 rfl rfl ?_
  refine g_iload O d_La_law_657 rfl ?_
  refine g_iconst (v := 3) O d_La_law_659 (by decide) ?_
  refine g_iadd O d_La_law_660 ?_
  rw [show nI (6 * j) + 3 = nI (6 * j + 3) from nI_add (6 * j) 3]
  refine g_sld O hX hb (ix_in (show 6 * j + 3 < L by omega) (by omega)) d_La_law_661 ?_
  first | refine g_aload_n O 0 d_La_law_662 rfl rfl ?_ | refine g_aload_nq O 0 d_La_law_662 rfl rfl ?_
  refine g_iload O d_La_law_663 rfl ?_
  refine g_iconst (v := 4) O d_La_law_665 (by decide) ?_
  refine g_iadd O d_La_law_666 ?_
  rw [show nI (6 * j) + 4 = nI (6 * j + 4) from nI_add (6 * j) 4]
  refine g_sld O hX hb (ix_in (show 6 * j + 4 < L by omega) (by omega)) d_La_law_667 ?_
  refine g_callv (N := 3) (mc := 0) (ms := 0) (av := [_, _, _, _]) O (Or.inl ⟨_, _, cw_Mo_narrow⟩) pl_Mo (ci := 6) (q := q_Mo) rfl hM1.km ml_La_105 im_Mo_narrow se_Mo_narrow rfl d_La_law_668 rfl (Nat.le_of_ble_eq_true rfl) (Nat.le_of_ble_eq_true rfl) (by show _ ≤ 839478; omega) (by show _ ≤ 6577669; omega) ?_
  refine om_narrow hM1 hJ.2.2.1 hJ.2.2.2.1 hS (fun w2 g2 v2 hM2 hL2 hF2 hc2 hv2 => ?_)
  simp only at hM2 hL2 hc2 hv2
  obtain ⟨hJ2, hj2⟩ := LJ.mod hR1 hk1 hl1 hsp hou1 hJ.2.2.2.2.2.2.2.2 hM2 hL2 hI2 hF2
  change cd_Go _ _ _ _ _ _ _ _ _ _
  refine g_istore O d_La_law_671 (Nat.le_of_ble_eq_true rfl) ?_
  first | refine g_aload_n O 2 d_La_law_673 rfl rfl ?_ | refine g_aload_nq O 2 d_La_law_673 rfl rfl ?_
  refine g_callv (N := 0) (mc := 0) (ms := 0) (av := []) O (Or.inl ⟨_, _, cw_Mo_thrown⟩) pl_Mo (ci := 6) (q := q_Mo) rfl hM2.km ml_La_82 im_Mo_thrown se_Mo_thrown rfl d_La_law_674 rfl (Nat.le_of_ble_eq_true rfl) (Nat.le_of_ble_eq_true rfl) (by show _ ≤ 839478; omega) (by show _ ≤ 6577669; omega) ?_
  refine ct_Mo_thrown hM2.km ?_
  rw [hc2]
  change cd_Go _ _ _ _ _ _ _ _ _ _
  refine g_iload O d_La_law_677 rfl ?_
  refine g_icmp_eq  O 684 d_La_law_679 (by decide) (fun c679 => ?_) (fun c679 => ?_)
  · refine g_iload O d_La_law_684 rfl ?_
    refine g_if_ne  O 701 d_La_law_686 (by decide) (fun c686 => ?_) (fun c686 => ?_)
    · refine g_goto O 1504 d_La_law_701 (by decide) ?_
      exact tail _ _ w2 A1 B τ g2 _ _ (by omega) (by omega) hJ2
    · have h0 : c = 0 := (nI_eq (b := 0) (by omega) (by omega)).mp c686
      have e9 : cd_J w2 ou (0 : Int32).toNatClampNeg = v2.toInt64 := by rw [show (0 : Int32).toNatClampNeg = 0 from by decide, hj2, hj1 h0, hv2 h0]
      first | refine g_aload_n O 3 d_La_law_689 rfl rfl ?_ | refine g_aload_nq O 3 d_La_law_689 rfl rfl ?_
      refine g_iconst (v := 0) O d_La_law_690 (by decide) ?_
      refine g_lald O 2 rfl rfl hJ2.2.2.2.2.1 (vin0 hJ2.2.2.2.2.2.1) d_La_law_691 ?_
      refine g_iload O d_La_law_692 rfl ?_
      refine g_i2l O d_La_law_694 rfl ?_
      refine g_lcmp O d_La_law_695 ?_
      refine g_if_eq  O 701 d_La_law_696 (by decide) (fun c696 => ?_) (fun c696 => ?_)
      · refine g_goto O 1504 d_La_law_701 (by decide) ?_
        exact tail _ _ w2 A1 B τ g2 _ _ (by omega) (by omega) hJ2
      · exact absurd (by rw [e9]; exact lg_self _) c696
  · exact absurd rfl c679
set_option maxHeartbeats 4000000 in
set_option maxRecDepth 100000 in
theorem law_c7 {G : cd_Gl} {l : Launch} {C : cd_Cx} {Z : State → Prop} (hst : l.stackTraces = false) (O : cd_Ok G y_La_law code 7 ret [] room_1 C) {b L : Nat} {xs : Nat → Int32} (hX : va_X b L xs (cx_s C) G.2.2) (hb : b < G.2.2.size) (hL : L ≤ 3072) {x m ou : Nat} {j : Nat} (hj : 6 * j + 6 ≤ L) {k n : Nat} (hk9 : k ≤ 100 + 64 * j) (hn9 : n ≤ 2000 + 200 * j) {w : cd_Wd} {A : cd_A} {B : Nat → Nat} {σ : cd_S} {g : Nat → Bool} (hJ : LJ w x m ou A B σ g)
    (tail : ∀ (k n : Nat) (w : cd_Wd) (A : cd_A) (B : Nat → Nat) (σ : cd_S) (g : Nat → Bool) (v5 v6 : Option Value), k ≤ 100 + 64 * (j + 1) → n ≤ 2000 + 200 * (j + 1) → LJ w x m ou A B σ g → cd_Go G l C Z k n w 1504 [some (.ref b), some (.ref x), some (.ref m), some (.ref ou), some (.int (nI (6 * j))), v5, v6] []) : cd_Go G l C Z k n w 704 [some (.ref b), some (.ref x), some (.ref m), some (.ref ou), some (.int (nI (6 * j))), none, none] [] := by
  first | refine g_aload_n O 1 d_La_law_704 rfl rfl ?_ | refine g_aload_nq O 1 d_La_law_704 rfl rfl ?_
  first | refine g_aload_n O 0 d_La_law_705 rfl rfl ?_ | refine g_aload_nq O 0 d_La_law_705 rfl rfl ?_
  refine g_iload O d_La_law_706 rfl ?_
  refine g_iconst (v := 1) O d_La_law_708 (by decide) ?_
  refine g_iadd O d_La_law_709 ?_
  rw [show nI (6 * j) + 1 = nI (6 * j + 1) from nI_add (6 * j) 1]
  refine g_sld O hX hb (ix_in (show 6 * j + 1 < L by omega) (by omega)) d_La_law_710 ?_
  first | refine g_aload_n O 0 d_La_law_711 rfl rfl ?_ | refine g_aload_nq O 0 d_La_law_711 rfl rfl ?_
  refine g_iload O d_La_law_712 rfl ?_
  refine g_iconst (v := 2) O d_La_law_714 (by decide) ?_
  refine g_iadd O d_La_law_715 ?_
  rw [show nI (6 * j) + 2 = nI (6 * j + 2) from nI_add (6 * j) 2]
  refine g_sld O hX hb (ix_in (show 6 * j + 2 < L by omega) (by omega)) d_La_law_716 ?_
  first | refine g_aload_n O 0 d_La_law_717 rfl rfl ?_ | refine g_aload_nq O 0 d_La_law_717 rfl rfl ?_
  refine g_iload O d_La_law_718 rfl ?_
  refine g_iconst (v := 3) O d_La_law_720 (by decide) ?_
  refine g_iadd O d_La_law_721 ?_
  rw [show nI (6 * j) + 3 = nI (6 * j + 3) from nI_add (6 * j) 3]
  refine g_sld O hX hb (ix_in (show 6 * j + 3 < L by omega) (by omega)) d_La_law_722 ?_
  first | refine g_aload_n O 0 d_La_law_723 rfl rfl ?_ | refine g_aload_nq O 0 d_La_law_723 rfl rfl ?_
  refine g_iload O d_La_law_724 rfl ?_
  refine g_iconst (v := 4) O d_La_law_726 (by decide) ?_
  refine g_iadd O d_La_law_727 ?_
  rw [show nI (6 * j) + 4 = nI (6 * j + 4) from nI_add (6 * j) 4]
  refine g_sld O hX hb (ix_in (show 6 * j + 4 < L by omega) (by omega)) d_La_law_728 ?_
  first | refine g_aload_n O 3 d_La_law_729 rfl rfl ?_ | refine g_aload_nq O 3 d_La_law_729 rfl rfl ?_
  refine g_calls (N := 8) (mc := 5) (ms := 30) (av := [_, _, _, _, _, _]) O (Or.inr ⟨_, _, _, cw_La_give⟩) pl_La ml_La_106 st_La_give in_La rfl d_La_law_730 rfl (Nat.le_of_ble_eq_true rfl) (Nat.le_of_ble_eq_true rfl) (by show _ ≤ 839478; omega) (by show _ ≤ 6577669; omega) ?_
  refine lw_give hst hJ.1 hJ.2.2.2.1 hJ.2.2.2.2.1 hJ.2.2.2.2.2.1 hJ.2.2.2.2.2.2.2.1 rfl (fun w1 A1 hR1 hF1 hs1 hj1 => ?_)
  obtain ⟨hM1, hk1, hl1, hsp, hou1⟩ := hJ.cls hF1 hs1
  have hI2 := Iv_give hJ.2.2.2.1 hJ.1.wf hJ.2.1.D6 hJ.2.2.1 (xs (nI (6 * j + 1)).toNatClampNeg) (xs (nI (6 * j + 2)).toNatClampNeg) (xs (nI (6 * j + 3)).toNatClampNeg) (xs (nI (6 * j + 4)).toNatClampNeg)
  have hcd := cdn_give σ (xs (nI (6 * j + 1)).toNatClampNeg) (xs (nI (6 * j + 2)).toNatClampNeg) (xs (nI (6 * j + 3)).toNatClampNeg) (xs (nI (6 * j + 4)).toNatClampNeg)
  generalize hS : sp_give σ (xs (nI (6 * j + 1)).toNatClampNeg) (xs (nI (6 * j + 2)).toNatClampNeg) (xs (nI (6 * j + 3)).toNatClampNeg) (xs (nI (6 * j + 4)).toNatClampNeg) = r at hR1 hs1 hj1 hsp hou1 hI2 hcd ⊢
  obtain ⟨c, a, τ⟩ := r
  simp only at hR1 hs1 hj1 hsp hou1 hI2 hcd
  change cd_Go _ _ _ _ _ _ _ _ _ _
  refine g_istore O d_La_law_733 (Nat.le_of_ble_eq_true rfl) ?_
  first | refine g_aload_n O 2 d_La_law_735 rfl rfl ?_ | refine g_aload_nq O 2 d_La_law_735 rfl rfl ?_
  first | refine g_aload_n O 0 d_La_law_736 rfl rfl ?_ | refine g_aload_nq O 0 d_La_law_736 rfl rfl ?_
  refine g_iload O d_La_law_737 rfl ?_
  refine g_iconst (v := 1) O d_La_law_739 (by decide) ?_
  refine g_iadd O d_La_law_740 ?_
  rw [show nI (6 * j) + 1 = nI (6 * j + 1) from nI_add (6 * j) 1]
  refine g_sld O hX hb (ix_in (show 6 * j + 1 < L by omega) (by omega)) d_La_law_741 ?_
  first | refine g_aload_n O 0 d_La_law_742 rfl rfl ?_ | refine g_aload_nq O 0 d_La_law_742 rfl rfl ?_
  refine g_iload O d_La_law_743 rfl ?_
  refine g_iconst (v := 2) O d_La_law_745 (by decide) ?_
  refine g_iadd O d_La_law_746 ?_
  rw [show nI (6 * j) + 2 = nI (6 * j + 2) from nI_add (6 * j) 2]
  refine g_sld O hX hb (ix_in (show 6 * j + 2 < L by omega) (by omega)) d_La_law_747 ?_
  first | refine g_aload_n O 0 d_La_law_748 rfl rfl ?_ | refine g_aload_nq O 0 d_La_law_748 rfl rfl ?_
  refine g_iload O d_La_law_749 rfl ?_
  refine g_iconst (v := 3) O d_La_law_751 (by decide) ?_
  refine g_iadd O d_La_law_752 ?_
  rw [show nI (6 * j) + 3 = nI (6 * j + 3) from nI_add (6 * j) 3]
  refine g_sld O hX hb (ix_in (show 6 * j + 3 < L by omega) (by omega)) d_La_law_753 ?_
  first | refine g_aload_n O 0 d_La_law_754 rfl rfl ?_ | refine g_aload_nq O 0 d_La_law_754 rfl rfl ?_
  refine g_iload O d_La_law_755 rfl ?_
  refine g_iconst (v := 4) O d_La_law_757 (by decide) ?_
  refine g_iadd O d_La_law_758 ?_
  rw [show nI (6 * j) + 4 = nI (6 * j + 4) from nI_add (6 * j) 4]
  refine g_sld O hX hb (ix_in (show 6 * j + 4 < L by omega) (by omega)) d_La_law_759 ?_
  refine g_callv (N := 1) (mc := 0) (ms := 0) (av := [_, _, _, _]) O (Or.inl ⟨_, _, cw_Mo_give⟩) pl_Mo (ci := 6) (q := q_Mo) rfl hM1.km ml_La_108 im_Mo_give se_Mo_give rfl d_La_law_760 rfl (Nat.le_of_ble_eq_true rfl) (Nat.le_of_ble_eq_true rfl) (by show _ ≤ 839478; omega) (by show _ ≤ 6577669; omega) ?_
  refine om_give hM1 hJ.2.2.1 hJ.2.2.2.1 hS (fun w2 g2 v2 hM2 hL2 hF2 hc2 hv2 => ?_)
  simp only at hM2 hL2 hc2 hv2
  obtain ⟨hJ2, hj2⟩ := LJ.mod hR1 hk1 hl1 hsp hou1 hJ.2.2.2.2.2.2.2.2 hM2 hL2 hI2 hF2
  change cd_Go _ _ _ _ _ _ _ _ _ _
  refine g_istore O d_La_law_763 (Nat.le_of_ble_eq_true rfl) ?_
  first | refine g_aload_n O 2 d_La_law_765 rfl rfl ?_ | refine g_aload_nq O 2 d_La_law_765 rfl rfl ?_
  refine g_callv (N := 0) (mc := 0) (ms := 0) (av := []) O (Or.inl ⟨_, _, cw_Mo_thrown⟩) pl_Mo (ci := 6) (q := q_Mo) rfl hM2.km ml_La_82 im_Mo_thrown se_Mo_thrown rfl d_La_law_766 rfl (Nat.le_of_ble_eq_true rfl) (Nat.le_of_ble_eq_true rfl) (by show _ ≤ 839478; omega) (by show _ ≤ 6577669; omega) ?_
  refine ct_Mo_thrown hM2.km ?_
  rw [hc2]
  change cd_Go _ _ _ _ _ _ _ _ _ _
  refine g_iload O d_La_law_769 rfl ?_
  refine g_icmp_eq  O 776 d_La_law_771 (by decide) (fun c771 => ?_) (fun c771 => ?_)
  · refine g_iload O d_La_law_776 rfl ?_
    refine g_if_ne  O 793 d_La_law_778 (by decide) (fun c778 => ?_) (fun c778 => ?_)
    · refine g_goto O 1504 d_La_law_793 (by decide) ?_
      exact tail _ _ w2 A1 B τ g2 _ _ (by omega) (by omega) hJ2
    · have h0 : c = 0 := (nI_eq (b := 0) (by omega) (by omega)).mp c778
      have e9 : cd_J w2 ou (0 : Int32).toNatClampNeg = v2.toInt64 := by rw [show (0 : Int32).toNatClampNeg = 0 from by decide, hj2, hj1 h0, hv2 h0]
      first | refine g_aload_n O 3 d_La_law_781 rfl rfl ?_ | refine g_aload_nq O 3 d_La_law_781 rfl rfl ?_
      refine g_iconst (v := 0) O d_La_law_782 (by decide) ?_
      refine g_lald O 2 rfl rfl hJ2.2.2.2.2.1 (vin0 hJ2.2.2.2.2.2.1) d_La_law_783 ?_
      refine g_iload O d_La_law_784 rfl ?_
      refine g_i2l O d_La_law_786 rfl ?_
      refine g_lcmp O d_La_law_787 ?_
      refine g_if_eq  O 793 d_La_law_788 (by decide) (fun c788 => ?_) (fun c788 => ?_)
      · refine g_goto O 1504 d_La_law_793 (by decide) ?_
        exact tail _ _ w2 A1 B τ g2 _ _ (by omega) (by omega) hJ2
      · exact absurd (by rw [e9]; exact lg_self _) c788
  · exact absurd rfl c771
set_option maxHeartbeats 4000000 in
set_option maxRecDepth 100000 in
theorem law_c8 {G : cd_Gl} {l : Launch} {C : cd_Cx} {Z : State → Prop} (hst : l.stackTraces = false) (O : cd_Ok G y_La_law code 7 ret [] room_1 C) {b L : Nat} {xs : Nat → Int32} (hX : va_X b L xs (cx_s C) G.2.2) (hb : b < G.2.2.size) (hL : L ≤ 3072) {x m ou : Nat} {j : Nat} (hj : 6 * j + 6 ≤ L) {k n : Nat} (hk9 : k ≤ 100 + 64 * j) (hn9 : n ≤ 2000 + 200 * j) {w : cd_Wd} {A : cd_A} {B : Nat → Nat} {σ : cd_S} {g : Nat → Bool} (hJ : LJ w x m ou A B σ g)
    (tail : ∀ (k n : Nat) (w : cd_Wd) (A : cd_A) (B : Nat → Nat) (σ : cd_S) (g : Nat → Bool) (v5 v6 : Option Value), k ≤ 100 + 64 * (j + 1) → n ≤ 2000 + 200 * (j + 1) → LJ w x m ou A B σ g → cd_Go G l C Z k n w 1504 [some (.ref b), some (.ref x), some (.ref m), some (.ref ou), some (.int (nI (6 * j))), v5, v6] []) : cd_Go G l C Z k n w 796 [some (.ref b), some (.ref x), some (.ref m), some (.ref ou), some (.int (nI (6 * j))), none, none] [] := by
  first | refine g_aload_n O 1 d_La_law_796 rfl rfl ?_ | refine g_aload_nq O 1 d_La_law_796 rfl rfl ?_
  first | refine g_aload_n O 0 d_La_law_797 rfl rfl ?_ | refine g_aload_nq O 0 d_La_law_797 rfl rfl ?_
  refine g_iload O d_La_law_798 rfl ?_
  refine g_iconst (v := 1) O d_La_law_800 (by decide) ?_
  refine g_iadd O d_La_law_801 ?_
  rw [show nI (6 * j) + 1 = nI (6 * j + 1) from nI_add (6 * j) 1]
  refine g_sld O hX hb (ix_in (show 6 * j + 1 < L by omega) (by omega)) d_La_law_802 ?_
  first | refine g_aload_n O 0 d_La_law_803 rfl rfl ?_ | refine g_aload_nq O 0 d_La_law_803 rfl rfl ?_
  refine g_iload O d_La_law_804 rfl ?_
  refine g_iconst (v := 2) O d_La_law_806 (by decide) ?_
  refine g_iadd O d_La_law_807 ?_
  rw [show nI (6 * j) + 2 = nI (6 * j + 2) from nI_add (6 * j) 2]
  refine g_sld O hX hb (ix_in (show 6 * j + 2 < L by omega) (by omega)) d_La_law_808 ?_
  first | refine g_aload_n O 3 d_La_law_809 rfl rfl ?_ | refine g_aload_nq O 3 d_La_law_809 rfl rfl ?_
  refine g_calls (N := 8) (mc := 4) (ms := 24) (av := [_, _, _, _]) O (Or.inr ⟨_, _, _, cw_La_revoke⟩) pl_La ml_La_109 st_La_revoke in_La rfl d_La_law_810 rfl (Nat.le_of_ble_eq_true rfl) (Nat.le_of_ble_eq_true rfl) (by show _ ≤ 839478; omega) (by show _ ≤ 6577669; omega) ?_
  refine lw_revoke hst hJ.1 hJ.2.2.2.1 hJ.2.2.2.2.1 hJ.2.2.2.2.2.1 hJ.2.2.2.2.2.2.2.1 rfl (fun w1 A1 hR1 hF1 hs1 hj1 => ?_)
  obtain ⟨hM1, hk1, hl1, hsp, hou1⟩ := hJ.cls hF1 hs1
  have hI2 := Iv_revok hJ.2.2.2.1 hJ.1.wf hJ.2.1.D6 hJ.2.2.1 (xs (nI (6 * j + 1)).toNatClampNeg) (xs (nI (6 * j + 2)).toNatClampNeg)
  have hcd := cdn_revoke σ (xs (nI (6 * j + 1)).toNatClampNeg) (xs (nI (6 * j + 2)).toNatClampNeg)
  generalize hS : sp_revoke σ (xs (nI (6 * j + 1)).toNatClampNeg) (xs (nI (6 * j + 2)).toNatClampNeg) = r at hR1 hs1 hj1 hsp hou1 hI2 hcd ⊢
  obtain ⟨c, a, τ⟩ := r
  simp only at hR1 hs1 hj1 hsp hou1 hI2 hcd
  change cd_Go _ _ _ _ _ _ _ _ _ _
  refine g_istore O d_La_law_813 (Nat.le_of_ble_eq_true rfl) ?_
  first | refine g_aload_n O 2 d_La_law_815 rfl rfl ?_ | refine g_aload_nq O 2 d_La_law_815 rfl rfl ?_
  first | refine g_aload_n O 0 d_La_law_816 rfl rfl ?_ | refine g_aload_nq O 0 d_La_law_816 rfl rfl ?_
  refine g_iload O d_La_law_817 rfl ?_
  refine g_iconst (v := 1) O d_La_law_819 (by decide) ?_
  refine g_iadd O d_La_law_820 ?_
  rw [show nI (6 * j) + 1 = nI (6 * j + 1) from nI_add (6 * j) 1]
  refine g_sld O hX hb (ix_in (show 6 * j + 1 < L by omega) (by omega)) d_La_law_821 ?_
  first | refine g_aload_n O 0 d_La_law_822 rfl rfl ?_ | refine g_aload_nq O 0 d_La_law_822 rfl rfl ?_
  refine g_iload O d_La_law_823 rfl ?_
  refine g_iconst (v := 2) O d_La_law_825 (by decide) ?_
  refine g_iadd O d_La_law_826 ?_
  rw [show nI (6 * j) + 2 = nI (6 * j + 2) from nI_add (6 * j) 2]
  refine g_sld O hX hb (ix_in (show 6 * j + 2 < L by omega) (by omega)) d_La_law_827 ?_
  refine g_callv (N := 3) (mc := 0) (ms := 0) (av := [_, _]) O (Or.inl ⟨_, _, cw_Mo_revoke⟩) pl_Mo (ci := 6) (q := q_Mo) rfl hM1.km ml_La_112 im_Mo_revoke se_Mo_revoke rfl d_La_law_828 rfl (Nat.le_of_ble_eq_true rfl) (Nat.le_of_ble_eq_true rfl) (by show _ ≤ 839478; omega) (by show _ ≤ 6577669; omega) ?_
  refine om_revoke hM1 hJ.2.2.1 hJ.2.2.2.1 hS (fun w2 g2 v2 hM2 hL2 hF2 hc2 hv2 => ?_)
  simp only at hM2 hL2 hc2 hv2
  obtain ⟨hJ2, hj2⟩ := LJ.mod hR1 hk1 hl1 hsp hou1 hJ.2.2.2.2.2.2.2.2 hM2 hL2 hI2 hF2
  change cd_Go _ _ _ _ _ _ _ _ _ _
  refine g_istore O d_La_law_831 (Nat.le_of_ble_eq_true rfl) ?_
  first | refine g_aload_n O 2 d_La_law_833 rfl rfl ?_ | refine g_aload_nq O 2 d_La_law_833 rfl rfl ?_
  refine g_callv (N := 0) (mc := 0) (ms := 0) (av := []) O (Or.inl ⟨_, _, cw_Mo_thrown⟩) pl_Mo (ci := 6) (q := q_Mo) rfl hM2.km ml_La_82 im_Mo_thrown se_Mo_thrown rfl d_La_law_834 rfl (Nat.le_of_ble_eq_true rfl) (Nat.le_of_ble_eq_true rfl) (by show _ ≤ 839478; omega) (by show _ ≤ 6577669; omega) ?_
  refine ct_Mo_thrown hM2.km ?_
  rw [hc2]
  change cd_Go _ _ _ _ _ _ _ _ _ _
  refine g_iload O d_La_law_837 rfl ?_
  refine g_icmp_eq  O 844 d_La_law_839 (by decide) (fun c839 => ?_) (fun c839 => ?_)
  · refine g_iload O d_La_law_844 rfl ?_
    refine g_if_ne  O 861 d_La_law_846 (by decide) (fun c846 => ?_) (fun c846 => ?_)
    · refine g_goto O 1504 d_La_law_861 (by decide) ?_
      exact tail _ _ w2 A1 B τ g2 _ _ (by omega) (by omega) hJ2
    · have h0 : c = 0 := (nI_eq (b := 0) (by omega) (by omega)).mp c846
      have e9 : cd_J w2 ou (0 : Int32).toNatClampNeg = v2.toInt64 := by rw [show (0 : Int32).toNatClampNeg = 0 from by decide, hj2, hj1 h0, hv2 h0]
      first | refine g_aload_n O 3 d_La_law_849 rfl rfl ?_ | refine g_aload_nq O 3 d_La_law_849 rfl rfl ?_
      refine g_iconst (v := 0) O d_La_law_850 (by decide) ?_
      refine g_lald O 2 rfl rfl hJ2.2.2.2.2.1 (vin0 hJ2.2.2.2.2.2.1) d_La_law_851 ?_
      refine g_iload O d_La_law_852 rfl ?_
      refine g_i2l O d_La_law_854 rfl ?_
      refine g_lcmp O d_La_law_855 ?_
      refine g_if_eq  O 861 d_La_law_856 (by decide) (fun c856 => ?_) (fun c856 => ?_)
      · refine g_goto O 1504 d_La_law_861 (by decide) ?_
        exact tail _ _ w2 A1 B τ g2 _ _ (by omega) (by omega) hJ2
      · exact absurd (by rw [e9]; exact lg_self _) c856
  · exact absurd rfl c839
set_option maxHeartbeats 4000000 in
set_option maxRecDepth 100000 in
theorem law_c9 {G : cd_Gl} {l : Launch} {C : cd_Cx} {Z : State → Prop} (hst : l.stackTraces = false) (O : cd_Ok G y_La_law code 7 ret [] room_1 C) {b L : Nat} {xs : Nat → Int32} (hX : va_X b L xs (cx_s C) G.2.2) (hb : b < G.2.2.size) (hL : L ≤ 3072) {x m ou : Nat} {j : Nat} (hj : 6 * j + 6 ≤ L) {k n : Nat} (hk9 : k ≤ 100 + 64 * j) (hn9 : n ≤ 2000 + 200 * j) {w : cd_Wd} {A : cd_A} {B : Nat → Nat} {σ : cd_S} {g : Nat → Bool} (hJ : LJ w x m ou A B σ g)
    (tail : ∀ (k n : Nat) (w : cd_Wd) (A : cd_A) (B : Nat → Nat) (σ : cd_S) (g : Nat → Bool) (v5 v6 : Option Value), k ≤ 100 + 64 * (j + 1) → n ≤ 2000 + 200 * (j + 1) → LJ w x m ou A B σ g → cd_Go G l C Z k n w 1504 [some (.ref b), some (.ref x), some (.ref m), some (.ref ou), some (.int (nI (6 * j))), v5, v6] []) : cd_Go G l C Z k n w 864 [some (.ref b), some (.ref x), some (.ref m), some (.ref ou), some (.int (nI (6 * j))), none, none] [] := by
  first | refine g_aload_n O 1 d_La_law_864 rfl rfl ?_ | refine g_aload_nq O 1 d_La_law_864 rfl rfl ?_
  first | refine g_aload_n O 0 d_La_law_865 rfl rfl ?_ | refine g_aload_nq O 0 d_La_law_865 rfl rfl ?_
  refine g_iload O d_La_law_866 rfl ?_
  refine g_iconst (v := 1) O d_La_law_868 (by decide) ?_
  refine g_iadd O d_La_law_869 ?_
  rw [show nI (6 * j) + 1 = nI (6 * j + 1) from nI_add (6 * j) 1]
  refine g_sld O hX hb (ix_in (show 6 * j + 1 < L by omega) (by omega)) d_La_law_870 ?_
  first | refine g_aload_n O 0 d_La_law_871 rfl rfl ?_ | refine g_aload_nq O 0 d_La_law_871 rfl rfl ?_
  refine g_iload O d_La_law_872 rfl ?_
  refine g_iconst (v := 2) O d_La_law_874 (by decide) ?_
  refine g_iadd O d_La_law_875 ?_
  rw [show nI (6 * j) + 2 = nI (6 * j + 2) from nI_add (6 * j) 2]
  refine g_sld O hX hb (ix_in (show 6 * j + 2 < L by omega) (by omega)) d_La_law_876 ?_
  first | refine g_aload_n O 0 d_La_law_877 rfl rfl ?_ | refine g_aload_nq O 0 d_La_law_877 rfl rfl ?_
  refine g_iload O d_La_law_878 rfl ?_
  refine g_iconst (v := 3) O d_La_law_880 (by decide) ?_
  refine g_iadd O d_La_law_881 ?_
  rw [show nI (6 * j) + 3 = nI (6 * j + 3) from nI_add (6 * j) 3]
  refine g_sld O hX hb (ix_in (show 6 * j + 3 < L by omega) (by omega)) d_La_law_882 ?_
  first | refine g_aload_n O 3 d_La_law_883 rfl rfl ?_ | refine g_aload_nq O 3 d_La_law_883 rfl rfl ?_
  refine g_calls (N := 9) (mc := 6) (ms := 36) (av := [_, _, _, _, _]) O (Or.inr ⟨_, _, _, cw_La_read⟩) pl_La ml_La_113 st_La_read in_La rfl d_La_law_884 rfl (Nat.le_of_ble_eq_true rfl) (Nat.le_of_ble_eq_true rfl) (by show _ ≤ 839478; omega) (by show _ ≤ 6577669; omega) ?_
  refine lw_read hst hJ.1 hJ.2.2.2.1 hJ.2.2.2.2.1 hJ.2.2.2.2.2.1 hJ.2.2.2.2.2.2.2.1 rfl (fun w1 A1 hR1 hF1 hs1 hj1 => ?_)
  obtain ⟨hM1, hk1, hl1, hsp, hou1⟩ := hJ.cls hF1 hs1
  have hI2 := Iv_read hJ.2.2.2.1 hJ.1.wf hJ.2.1.D6 hJ.2.2.1 (xs (nI (6 * j + 1)).toNatClampNeg) (xs (nI (6 * j + 2)).toNatClampNeg) (xs (nI (6 * j + 3)).toNatClampNeg)
  have hcd := cdn_read σ (xs (nI (6 * j + 1)).toNatClampNeg) (xs (nI (6 * j + 2)).toNatClampNeg) (xs (nI (6 * j + 3)).toNatClampNeg)
  generalize hS : sp_read σ (xs (nI (6 * j + 1)).toNatClampNeg) (xs (nI (6 * j + 2)).toNatClampNeg) (xs (nI (6 * j + 3)).toNatClampNeg) = r at hR1 hs1 hj1 hsp hou1 hI2 hcd ⊢
  obtain ⟨c, a, τ⟩ := r
  simp only at hR1 hs1 hj1 hsp hou1 hI2 hcd
  change cd_Go _ _ _ _ _ _ _ _ _ _
  refine g_istore O d_La_law_887 (Nat.le_of_ble_eq_true rfl) ?_
  first | refine g_aload_n O 2 d_La_law_889 rfl rfl ?_ | refine g_aload_nq O 2 d_La_law_889 rfl rfl ?_
  first | refine g_aload_n O 0 d_La_law_890 rfl rfl ?_ | refine g_aload_nq O 0 d_La_law_890 rfl rfl ?_
  refine g_iload O d_La_law_891 rfl ?_
  refine g_iconst (v := 1) O d_La_law_893 (by decide) ?_
  refine g_iadd O d_La_law_894 ?_
  rw [show nI (6 * j) + 1 = nI (6 * j + 1) from nI_add (6 * j) 1]
  refine g_sld O hX hb (ix_in (show 6 * j + 1 < L by omega) (by omega)) d_La_law_895 ?_
  first | refine g_aload_n O 0 d_La_law_896 rfl rfl ?_ | refine g_aload_nq O 0 d_La_law_896 rfl rfl ?_
  refine g_iload O d_La_law_897 rfl ?_
  refine g_iconst (v := 2) O d_La_law_899 (by decide) ?_
  refine g_iadd O d_La_law_900 ?_
  rw [show nI (6 * j) + 2 = nI (6 * j + 2) from nI_add (6 * j) 2]
  refine g_sld O hX hb (ix_in (show 6 * j + 2 < L by omega) (by omega)) d_La_law_901 ?_
  first | refine g_aload_n O 0 d_La_law_902 rfl rfl ?_ | refine g_aload_nq O 0 d_La_law_902 rfl rfl ?_
  refine g_iload O d_La_law_903 rfl ?_
  refine g_iconst (v := 3) O d_La_law_905 (by decide) ?_
  refine g_iadd O d_La_law_906 ?_
  rw [show nI (6 * j) + 3 = nI (6 * j + 3) from nI_add (6 * j) 3]
  refine g_sld O hX hb (ix_in (show 6 * j + 3 < L by omega) (by omega)) d_La_law_907 ?_
  refine g_callv (N := 3) (mc := 0) (ms := 0) (av := [_, _, _]) O (Or.inl ⟨_, _, cw_Mo_read⟩) pl_Mo (ci := 6) (q := q_Mo) rfl hM1.km ml_La_116 im_Mo_read se_Mo_read rfl d_La_law_908 rfl (Nat.le_of_ble_eq_true rfl) (Nat.le_of_ble_eq_true rfl) (by show _ ≤ 839478; omega) (by show _ ≤ 6577669; omega) ?_
  refine om_read hM1 hJ.2.2.1 hJ.2.2.2.1 hS (fun w2 g2 v2 hM2 hL2 hF2 hc2 hv2 => ?_)
  simp only at hM2 hL2 hc2 hv2
  obtain ⟨hJ2, hj2⟩ := LJ.mod hR1 hk1 hl1 hsp hou1 hJ.2.2.2.2.2.2.2.2 hM2 hL2 hI2 hF2
  change cd_Go _ _ _ _ _ _ _ _ _ _
  refine g_istore O d_La_law_911 (Nat.le_of_ble_eq_true rfl) ?_
  first | refine g_aload_n O 2 d_La_law_913 rfl rfl ?_ | refine g_aload_nq O 2 d_La_law_913 rfl rfl ?_
  refine g_callv (N := 0) (mc := 0) (ms := 0) (av := []) O (Or.inl ⟨_, _, cw_Mo_thrown⟩) pl_Mo (ci := 6) (q := q_Mo) rfl hM2.km ml_La_82 im_Mo_thrown se_Mo_thrown rfl d_La_law_914 rfl (Nat.le_of_ble_eq_true rfl) (Nat.le_of_ble_eq_true rfl) (by show _ ≤ 839478; omega) (by show _ ≤ 6577669; omega) ?_
  refine ct_Mo_thrown hM2.km ?_
  rw [hc2]
  change cd_Go _ _ _ _ _ _ _ _ _ _
  refine g_iload O d_La_law_917 rfl ?_
  refine g_icmp_eq  O 924 d_La_law_919 (by decide) (fun c919 => ?_) (fun c919 => ?_)
  · refine g_iload O d_La_law_924 rfl ?_
    refine g_if_ne  O 941 d_La_law_926 (by decide) (fun c926 => ?_) (fun c926 => ?_)
    · refine g_goto O 1504 d_La_law_941 (by decide) ?_
      exact tail _ _ w2 A1 B τ g2 _ _ (by omega) (by omega) hJ2
    · have h0 : c = 0 := (nI_eq (b := 0) (by omega) (by omega)).mp c926
      have e9 : cd_J w2 ou (0 : Int32).toNatClampNeg = v2.toInt64 := by rw [show (0 : Int32).toNatClampNeg = 0 from by decide, hj2, hj1 h0, hv2 h0]
      first | refine g_aload_n O 3 d_La_law_929 rfl rfl ?_ | refine g_aload_nq O 3 d_La_law_929 rfl rfl ?_
      refine g_iconst (v := 0) O d_La_law_930 (by decide) ?_
      refine g_lald O 2 rfl rfl hJ2.2.2.2.2.1 (vin0 hJ2.2.2.2.2.2.1) d_La_law_931 ?_
      refine g_iload O d_La_law_932 rfl ?_
      refine g_i2l O d_La_law_934 rfl ?_
      refine g_lcmp O d_La_law_935 ?_
      refine g_if_eq  O 941 d_La_law_936 (by decide) (fun c936 => ?_) (fun c936 => ?_)
      · refine g_goto O 1504 d_La_law_941 (by decide) ?_
        exact tail _ _ w2 A1 B τ g2 _ _ (by omega) (by omega) hJ2
      · exact absurd (by rw [e9]; exact lg_self _) c936
  · exact absurd rfl c919
set_option maxHeartbeats 4000000 in
set_option maxRecDepth 100000 in
theorem law_c10 {G : cd_Gl} {l : Launch} {C : cd_Cx} {Z : State → Prop} (hst : l.stackTraces = false) (O : cd_Ok G y_La_law code 7 ret [] room_1 C) {b L : Nat} {xs : Nat → Int32} (hX : va_X b L xs (cx_s C) G.2.2) (hb : b < G.2.2.size) (hL : L ≤ 3072) {x m ou : Nat} {j : Nat} (hj : 6 * j + 6 ≤ L) {k n : Nat} (hk9 : k ≤ 100 + 64 * j) (hn9 : n ≤ 2000 + 200 * j) {w : cd_Wd} {A : cd_A} {B : Nat → Nat} {σ : cd_S} {g : Nat → Bool} (hJ : LJ w x m ou A B σ g)
    (tail : ∀ (k n : Nat) (w : cd_Wd) (A : cd_A) (B : Nat → Nat) (σ : cd_S) (g : Nat → Bool) (v5 v6 : Option Value), k ≤ 100 + 64 * (j + 1) → n ≤ 2000 + 200 * (j + 1) → LJ w x m ou A B σ g → cd_Go G l C Z k n w 1504 [some (.ref b), some (.ref x), some (.ref m), some (.ref ou), some (.int (nI (6 * j))), v5, v6] []) : cd_Go G l C Z k n w 944 [some (.ref b), some (.ref x), some (.ref m), some (.ref ou), some (.int (nI (6 * j))), none, none] [] := by
  first | refine g_aload_n O 1 d_La_law_944 rfl rfl ?_ | refine g_aload_nq O 1 d_La_law_944 rfl rfl ?_
  first | refine g_aload_n O 0 d_La_law_945 rfl rfl ?_ | refine g_aload_nq O 0 d_La_law_945 rfl rfl ?_
  refine g_iload O d_La_law_946 rfl ?_
  refine g_iconst (v := 1) O d_La_law_948 (by decide) ?_
  refine g_iadd O d_La_law_949 ?_
  rw [show nI (6 * j) + 1 = nI (6 * j + 1) from nI_add (6 * j) 1]
  refine g_sld O hX hb (ix_in (show 6 * j + 1 < L by omega) (by omega)) d_La_law_950 ?_
  first | refine g_aload_n O 0 d_La_law_951 rfl rfl ?_ | refine g_aload_nq O 0 d_La_law_951 rfl rfl ?_
  refine g_iload O d_La_law_952 rfl ?_
  refine g_iconst (v := 2) O d_La_law_954 (by decide) ?_
  refine g_iadd O d_La_law_955 ?_
  rw [show nI (6 * j) + 2 = nI (6 * j + 2) from nI_add (6 * j) 2]
  refine g_sld O hX hb (ix_in (show 6 * j + 2 < L by omega) (by omega)) d_La_law_956 ?_
  first | refine g_aload_n O 0 d_La_law_957 rfl rfl ?_ | refine g_aload_nq O 0 d_La_law_957 rfl rfl ?_
  refine g_iload O d_La_law_958 rfl ?_
  refine g_iconst (v := 3) O d_La_law_960 (by decide) ?_
  refine g_iadd O d_La_law_961 ?_
  rw [show nI (6 * j) + 3 = nI (6 * j + 3) from nI_add (6 * j) 3]
  refine g_sld O hX hb (ix_in (show 6 * j + 3 < L by omega) (by omega)) d_La_law_962 ?_
  first | refine g_aload_n O 0 d_La_law_963 rfl rfl ?_ | refine g_aload_nq O 0 d_La_law_963 rfl rfl ?_
  refine g_iload O d_La_law_964 rfl ?_
  refine g_iconst (v := 4) O d_La_law_966 (by decide) ?_
  refine g_iadd O d_La_law_967 ?_
  rw [show nI (6 * j) + 4 = nI (6 * j + 4) from nI_add (6 * j) 4]
  refine g_sld O hX hb (ix_in (show 6 * j + 4 < L by omega) (by omega)) d_La_law_968 ?_
  first | refine g_aload_n O 3 d_La_law_969 rfl rfl ?_ | refine g_aload_nq O 3 d_La_law_969 rfl rfl ?_
  refine g_calls (N := 9) (mc := 5) (ms := 30) (av := [_, _, _, _, _, _]) O (Or.inr ⟨_, _, _, cw_La_write⟩) pl_La ml_La_117 st_La_write in_La rfl d_La_law_970 rfl (Nat.le_of_ble_eq_true rfl) (Nat.le_of_ble_eq_true rfl) (by show _ ≤ 839478; omega) (by show _ ≤ 6577669; omega) ?_
  refine lw_write hst hJ.1 hJ.2.2.2.1 hJ.2.2.2.2.1 hJ.2.2.2.2.2.1 hJ.2.2.2.2.2.2.2.1 rfl (fun w1 A1 hR1 hF1 hs1 hj1 => ?_)
  obtain ⟨hM1, hk1, hl1, hsp, hou1⟩ := hJ.cls hF1 hs1
  have hI2 := Iv_write hJ.2.2.2.1 hJ.1.wf hJ.2.1.D6 hJ.2.2.1 (xs (nI (6 * j + 1)).toNatClampNeg) (xs (nI (6 * j + 2)).toNatClampNeg) (xs (nI (6 * j + 3)).toNatClampNeg) (xs (nI (6 * j + 4)).toNatClampNeg)
  have hcd := cdn_write σ (xs (nI (6 * j + 1)).toNatClampNeg) (xs (nI (6 * j + 2)).toNatClampNeg) (xs (nI (6 * j + 3)).toNatClampNeg) (xs (nI (6 * j + 4)).toNatClampNeg)
  generalize hS : sp_write σ (xs (nI (6 * j + 1)).toNatClampNeg) (xs (nI (6 * j + 2)).toNatClampNeg) (xs (nI (6 * j + 3)).toNatClampNeg) (xs (nI (6 * j + 4)).toNatClampNeg) = r at hR1 hs1 hj1 hsp hou1 hI2 hcd ⊢
  obtain ⟨c, a, τ⟩ := r
  simp only at hR1 hs1 hj1 hsp hou1 hI2 hcd
  change cd_Go _ _ _ _ _ _ _ _ _ _
  refine g_istore O d_La_law_973 (Nat.le_of_ble_eq_true rfl) ?_
  first | refine g_aload_n O 2 d_La_law_975 rfl rfl ?_ | refine g_aload_nq O 2 d_La_law_975 rfl rfl ?_
  first | refine g_aload_n O 0 d_La_law_976 rfl rfl ?_ | refine g_aload_nq O 0 d_La_law_976 rfl rfl ?_
  refine g_iload O d_La_law_977 rfl ?_
  refine g_iconst (v := 1) O d_La_law_979 (by decide) ?_
  refine g_iadd O d_La_law_980 ?_
  rw [show nI (6 * j) + 1 = nI (6 * j + 1) from nI_add (6 * j) 1]
  refine g_sld O hX hb (ix_in (show 6 * j + 1 < L by omega) (by omega)) d_La_law_981 ?_
  first | refine g_aload_n O 0 d_La_law_982 rfl rfl ?_ | refine g_aload_nq O 0 d_La_law_982 rfl rfl ?_
  refine g_iload O d_La_law_983 rfl ?_
  refine g_iconst (v := 2) O d_La_law_985 (by decide) ?_
  refine g_iadd O d_La_law_986 ?_
  rw [show nI (6 * j) + 2 = nI (6 * j + 2) from nI_add (6 * j) 2]
  refine g_sld O hX hb (ix_in (show 6 * j + 2 < L by omega) (by omega)) d_La_law_987 ?_
  first | refine g_aload_n O 0 d_La_law_988 rfl rfl ?_ | refine g_aload_nq O 0 d_La_law_988 rfl rfl ?_
  refine g_iload O d_La_law_989 rfl ?_
  refine g_iconst (v := 3) O d_La_law_991 (by decide) ?_
  refine g_iadd O d_La_law_992 ?_
  rw [show nI (6 * j) + 3 = nI (6 * j + 3) from nI_add (6 * j) 3]
  refine g_sld O hX hb (ix_in (show 6 * j + 3 < L by omega) (by omega)) d_La_law_993 ?_
  first | refine g_aload_n O 0 d_La_law_994 rfl rfl ?_ | refine g_aload_nq O 0 d_La_law_994 rfl rfl ?_
  refine g_iload O d_La_law_995 rfl ?_
  refine g_iconst (v := 4) O d_La_law_997 (by decide) ?_
  refine g_iadd O d_La_law_998 ?_
  rw [show nI (6 * j) + 4 = nI (6 * j + 4) from nI_add (6 * j) 4]
  refine g_sld O hX hb (ix_in (show 6 * j + 4 < L by omega) (by omega)) d_La_law_999 ?_
  refine g_callv (N := 3) (mc := 0) (ms := 0) (av := [_, _, _, _]) O (Or.inl ⟨_, _, cw_Mo_write⟩) pl_Mo (ci := 6) (q := q_Mo) rfl hM1.km ml_La_119 im_Mo_write se_Mo_write rfl d_La_law_1000 rfl (Nat.le_of_ble_eq_true rfl) (Nat.le_of_ble_eq_true rfl) (by show _ ≤ 839478; omega) (by show _ ≤ 6577669; omega) ?_
  refine om_write hM1 hJ.2.2.1 hJ.2.2.2.1 hS (fun w2 g2 v2 hM2 hL2 hF2 hc2 hv2 => ?_)
  simp only at hM2 hL2 hc2 hv2
  obtain ⟨hJ2, hj2⟩ := LJ.mod hR1 hk1 hl1 hsp hou1 hJ.2.2.2.2.2.2.2.2 hM2 hL2 hI2 hF2
  change cd_Go _ _ _ _ _ _ _ _ _ _
  refine g_istore O d_La_law_1003 (Nat.le_of_ble_eq_true rfl) ?_
  first | refine g_aload_n O 2 d_La_law_1005 rfl rfl ?_ | refine g_aload_nq O 2 d_La_law_1005 rfl rfl ?_
  refine g_callv (N := 0) (mc := 0) (ms := 0) (av := []) O (Or.inl ⟨_, _, cw_Mo_thrown⟩) pl_Mo (ci := 6) (q := q_Mo) rfl hM2.km ml_La_82 im_Mo_thrown se_Mo_thrown rfl d_La_law_1006 rfl (Nat.le_of_ble_eq_true rfl) (Nat.le_of_ble_eq_true rfl) (by show _ ≤ 839478; omega) (by show _ ≤ 6577669; omega) ?_
  refine ct_Mo_thrown hM2.km ?_
  rw [hc2]
  change cd_Go _ _ _ _ _ _ _ _ _ _
  refine g_iload O d_La_law_1009 rfl ?_
  refine g_icmp_eq  O 1016 d_La_law_1011 (by decide) (fun c1011 => ?_) (fun c1011 => ?_)
  · refine g_iload O d_La_law_1016 rfl ?_
    refine g_if_ne  O 1033 d_La_law_1018 (by decide) (fun c1018 => ?_) (fun c1018 => ?_)
    · refine g_goto O 1504 d_La_law_1033 (by decide) ?_
      exact tail _ _ w2 A1 B τ g2 _ _ (by omega) (by omega) hJ2
    · have h0 : c = 0 := (nI_eq (b := 0) (by omega) (by omega)).mp c1018
      have e9 : cd_J w2 ou (0 : Int32).toNatClampNeg = v2.toInt64 := by rw [show (0 : Int32).toNatClampNeg = 0 from by decide, hj2, hj1 h0, hv2 h0]
      first | refine g_aload_n O 3 d_La_law_1021 rfl rfl ?_ | refine g_aload_nq O 3 d_La_law_1021 rfl rfl ?_
      refine g_iconst (v := 0) O d_La_law_1022 (by decide) ?_
      refine g_lald O 2 rfl rfl hJ2.2.2.2.2.1 (vin0 hJ2.2.2.2.2.2.1) d_La_law_1023 ?_
      refine g_iload O d_La_law_1024 rfl ?_
      refine g_i2l O d_La_law_1026 rfl ?_
      refine g_lcmp O d_La_law_1027 ?_
      refine g_if_eq  O 1033 d_La_law_1028 (by decide) (fun c1028 => ?_) (fun c1028 => ?_)
      · refine g_goto O 1504 d_La_law_1033 (by decide) ?_
        exact tail _ _ w2 A1 B τ g2 _ _ (by omega) (by omega) hJ2
      · exact absurd (by rw [e9]; exact lg_self _) c1028
  · exact absurd rfl c1011
set_option maxHeartbeats 4000000 in
set_option maxRecDepth 100000 in
theorem law_c11 {G : cd_Gl} {l : Launch} {C : cd_Cx} {Z : State → Prop} (hst : l.stackTraces = false) (O : cd_Ok G y_La_law code 7 ret [] room_1 C) {b L : Nat} {xs : Nat → Int32} (hX : va_X b L xs (cx_s C) G.2.2) (hb : b < G.2.2.size) (hL : L ≤ 3072) {x m ou : Nat} {j : Nat} (hj : 6 * j + 6 ≤ L) {k n : Nat} (hk9 : k ≤ 100 + 64 * j) (hn9 : n ≤ 2000 + 200 * j) {w : cd_Wd} {A : cd_A} {B : Nat → Nat} {σ : cd_S} {g : Nat → Bool} (hJ : LJ w x m ou A B σ g)
    (tail : ∀ (k n : Nat) (w : cd_Wd) (A : cd_A) (B : Nat → Nat) (σ : cd_S) (g : Nat → Bool) (v5 v6 : Option Value), k ≤ 100 + 64 * (j + 1) → n ≤ 2000 + 200 * (j + 1) → LJ w x m ou A B σ g → cd_Go G l C Z k n w 1504 [some (.ref b), some (.ref x), some (.ref m), some (.ref ou), some (.int (nI (6 * j))), v5, v6] []) : cd_Go G l C Z k n w 1036 [some (.ref b), some (.ref x), some (.ref m), some (.ref ou), some (.int (nI (6 * j))), none, none] [] := by
  first | refine g_aload_n O 1 d_La_law_1036 rfl rfl ?_ | refine g_aload_nq O 1 d_La_law_1036 rfl rfl ?_
  first | refine g_aload_n O 0 d_La_law_1037 rfl rfl ?_ | refine g_aload_nq O 0 d_La_law_1037 rfl rfl ?_
  refine g_iload O d_La_law_1038 rfl ?_
  refine g_iconst (v := 1) O d_La_law_1040 (by decide) ?_
  refine g_iadd O d_La_law_1041 ?_
  rw [show nI (6 * j) + 1 = nI (6 * j + 1) from nI_add (6 * j) 1]
  refine g_sld O hX hb (ix_in (show 6 * j + 1 < L by omega) (by omega)) d_La_law_1042 ?_
  first | refine g_aload_n O 0 d_La_law_1043 rfl rfl ?_ | refine g_aload_nq O 0 d_La_law_1043 rfl rfl ?_
  refine g_iload O d_La_law_1044 rfl ?_
  refine g_iconst (v := 2) O d_La_law_1046 (by decide) ?_
  refine g_iadd O d_La_law_1047 ?_
  rw [show nI (6 * j) + 2 = nI (6 * j + 2) from nI_add (6 * j) 2]
  refine g_sld O hX hb (ix_in (show 6 * j + 2 < L by omega) (by omega)) d_La_law_1048 ?_
  first | refine g_aload_n O 0 d_La_law_1049 rfl rfl ?_ | refine g_aload_nq O 0 d_La_law_1049 rfl rfl ?_
  refine g_iload O d_La_law_1050 rfl ?_
  refine g_iconst (v := 3) O d_La_law_1052 (by decide) ?_
  refine g_iadd O d_La_law_1053 ?_
  rw [show nI (6 * j) + 3 = nI (6 * j + 3) from nI_add (6 * j) 3]
  refine g_sld O hX hb (ix_in (show 6 * j + 3 < L by omega) (by omega)) d_La_law_1054 ?_
  first | refine g_aload_n O 0 d_La_law_1055 rfl rfl ?_ | refine g_aload_nq O 0 d_La_law_1055 rfl rfl ?_
  refine g_iload O d_La_law_1056 rfl ?_
  refine g_iconst (v := 4) O d_La_law_1058 (by decide) ?_
  refine g_iadd O d_La_law_1059 ?_
  rw [show nI (6 * j) + 4 = nI (6 * j + 4) from nI_add (6 * j) 4]
  refine g_sld O hX hb (ix_in (show 6 * j + 4 < L by omega) (by omega)) d_La_law_1060 ?_
  first | refine g_aload_n O 3 d_La_law_1061 rfl rfl ?_ | refine g_aload_nq O 3 d_La_law_1061 rfl rfl ?_
  refine g_calls (N := 16) (mc := 7) (ms := 42) (av := [_, _, _, _, _, _]) O (Or.inr ⟨_, _, _, cw_La_pass⟩) pl_La ml_La_120 st_La_pass in_La rfl d_La_law_1062 rfl (Nat.le_of_ble_eq_true rfl) (Nat.le_of_ble_eq_true rfl) (by show _ ≤ 839478; omega) (by show _ ≤ 6577669; omega) ?_
  refine lw_pass hst hJ.1 hJ.2.2.2.1 hJ.2.2.2.2.1 hJ.2.2.2.2.2.1 hJ.2.2.2.2.2.2.2.1 rfl (fun w1 A1 hR1 hF1 hs1 hj1 => ?_)
  obtain ⟨hM1, hk1, hl1, hsp, hou1⟩ := hJ.cls hF1 hs1
  have hI2 := Iv_passs hJ.2.2.2.1 hJ.1.wf hJ.2.1.D6 hJ.2.2.1 (xs (nI (6 * j + 1)).toNatClampNeg) (xs (nI (6 * j + 2)).toNatClampNeg) (xs (nI (6 * j + 3)).toNatClampNeg) (xs (nI (6 * j + 4)).toNatClampNeg)
  have hcd := cdn_pass σ (xs (nI (6 * j + 1)).toNatClampNeg) (xs (nI (6 * j + 2)).toNatClampNeg) (xs (nI (6 * j + 3)).toNatClampNeg) (xs (nI (6 * j + 4)).toNatClampNeg)
  generalize hS : sp_pass σ (xs (nI (6 * j + 1)).toNatClampNeg) (xs (nI (6 * j + 2)).toNatClampNeg) (xs (nI (6 * j + 3)).toNatClampNeg) (xs (nI (6 * j + 4)).toNatClampNeg) = r at hR1 hs1 hj1 hsp hou1 hI2 hcd ⊢
  obtain ⟨c, a, τ⟩ := r
  simp only at hR1 hs1 hj1 hsp hou1 hI2 hcd
  change cd_Go _ _ _ _ _ _ _ _ _ _
  refine g_istore O d_La_law_1065 (Nat.le_of_ble_eq_true rfl) ?_
  first | refine g_aload_n O 2 d_La_law_1067 rfl rfl ?_ | refine g_aload_nq O 2 d_La_law_1067 rfl rfl ?_
  first | refine g_aload_n O 0 d_La_law_1068 rfl rfl ?_ | refine g_aload_nq O 0 d_La_law_1068 rfl rfl ?_
  refine g_iload O d_La_law_1069 rfl ?_
  refine g_iconst (v := 1) O d_La_law_1071 (by decide) ?_
  refine g_iadd O d_La_law_1072 ?_
  rw [show nI (6 * j) + 1 = nI (6 * j + 1) from nI_add (6 * j) 1]
  refine g_sld O hX hb (ix_in (show 6 * j + 1 < L by omega) (by omega)) d_La_law_1073 ?_
  first | refine g_aload_n O 0 d_La_law_1074 rfl rfl ?_ | refine g_aload_nq O 0 d_La_law_1074 rfl rfl ?_
  refine g_iload O d_La_law_1075 rfl ?_
  refine g_iconst (v := 2) O d_La_law_1077 (by decide) ?_
  refine g_iadd O d_La_law_1078 ?_
  rw [show nI (6 * j) + 2 = nI (6 * j + 2) from nI_add (6 * j) 2]
  refine g_sld O hX hb (ix_in (show 6 * j + 2 < L by omega) (by omega)) d_La_law_1079 ?_
  first | refine g_aload_n O 0 d_La_law_1080 rfl rfl ?_ | refine g_aload_nq O 0 d_La_law_1080 rfl rfl ?_
  refine g_iload O d_La_law_1081 rfl ?_
  refine g_iconst (v := 3) O d_La_law_1083 (by decide) ?_
  refine g_iadd O d_La_law_1084 ?_
  rw [show nI (6 * j) + 3 = nI (6 * j + 3) from nI_add (6 * j) 3]
  refine g_sld O hX hb (ix_in (show 6 * j + 3 < L by omega) (by omega)) d_La_law_1085 ?_
  first | refine g_aload_n O 0 d_La_law_1086 rfl rfl ?_ | refine g_aload_nq O 0 d_La_law_1086 rfl rfl ?_
  refine g_iload O d_La_law_1087 rfl ?_
  refine g_iconst (v := 4) O d_La_law_1089 (by decide) ?_
  refine g_iadd O d_La_law_1090 ?_
  rw [show nI (6 * j) + 4 = nI (6 * j + 4) from nI_add (6 * j) 4]
  refine g_sld O hX hb (ix_in (show 6 * j + 4 < L by omega) (by omega)) d_La_law_1091 ?_
  refine g_callv (N := 4) (mc := 0) (ms := 0) (av := [_, _, _, _]) O (Or.inl ⟨_, _, cw_Mo_pass⟩) pl_Mo (ci := 6) (q := q_Mo) rfl hM1.km ml_La_122 im_Mo_pass se_Mo_pass rfl d_La_law_1092 rfl (Nat.le_of_ble_eq_true rfl) (Nat.le_of_ble_eq_true rfl) (by show _ ≤ 839478; omega) (by show _ ≤ 6577669; omega) ?_
  refine om_pass hM1 hJ.2.2.1 hJ.2.2.2.1 hS (fun w2 g2 v2 hM2 hL2 hF2 hc2 hv2 => ?_)
  simp only at hM2 hL2 hc2 hv2
  obtain ⟨hJ2, hj2⟩ := LJ.mod hR1 hk1 hl1 hsp hou1 hJ.2.2.2.2.2.2.2.2 hM2 hL2 hI2 hF2
  change cd_Go _ _ _ _ _ _ _ _ _ _
  refine g_istore O d_La_law_1095 (Nat.le_of_ble_eq_true rfl) ?_
  first | refine g_aload_n O 2 d_La_law_1097 rfl rfl ?_ | refine g_aload_nq O 2 d_La_law_1097 rfl rfl ?_
  refine g_callv (N := 0) (mc := 0) (ms := 0) (av := []) O (Or.inl ⟨_, _, cw_Mo_thrown⟩) pl_Mo (ci := 6) (q := q_Mo) rfl hM2.km ml_La_82 im_Mo_thrown se_Mo_thrown rfl d_La_law_1098 rfl (Nat.le_of_ble_eq_true rfl) (Nat.le_of_ble_eq_true rfl) (by show _ ≤ 839478; omega) (by show _ ≤ 6577669; omega) ?_
  refine ct_Mo_thrown hM2.km ?_
  rw [hc2]
  change cd_Go _ _ _ _ _ _ _ _ _ _
  refine g_iload O d_La_law_1101 rfl ?_
  refine g_icmp_eq  O 1108 d_La_law_1103 (by decide) (fun c1103 => ?_) (fun c1103 => ?_)
  · refine g_iload O d_La_law_1108 rfl ?_
    refine g_if_ne  O 1125 d_La_law_1110 (by decide) (fun c1110 => ?_) (fun c1110 => ?_)
    · refine g_goto O 1504 d_La_law_1125 (by decide) ?_
      exact tail _ _ w2 A1 B τ g2 _ _ (by omega) (by omega) hJ2
    · have h0 : c = 0 := (nI_eq (b := 0) (by omega) (by omega)).mp c1110
      have e9 : cd_J w2 ou (0 : Int32).toNatClampNeg = v2.toInt64 := by rw [show (0 : Int32).toNatClampNeg = 0 from by decide, hj2, hj1 h0, hv2 h0]
      first | refine g_aload_n O 3 d_La_law_1113 rfl rfl ?_ | refine g_aload_nq O 3 d_La_law_1113 rfl rfl ?_
      refine g_iconst (v := 0) O d_La_law_1114 (by decide) ?_
      refine g_lald O 2 rfl rfl hJ2.2.2.2.2.1 (vin0 hJ2.2.2.2.2.2.1) d_La_law_1115 ?_
      refine g_iload O d_La_law_1116 rfl ?_
      refine g_i2l O d_La_law_1118 rfl ?_
      refine g_lcmp O d_La_law_1119 ?_
      refine g_if_eq  O 1125 d_La_law_1120 (by decide) (fun c1120 => ?_) (fun c1120 => ?_)
      · refine g_goto O 1504 d_La_law_1125 (by decide) ?_
        exact tail _ _ w2 A1 B τ g2 _ _ (by omega) (by omega) hJ2
      · exact absurd (by rw [e9]; exact lg_self _) c1120
  · exact absurd rfl c1103
set_option maxHeartbeats 4000000 in
set_option maxRecDepth 100000 in
theorem law_c12 {G : cd_Gl} {l : Launch} {C : cd_Cx} {Z : State → Prop} (hst : l.stackTraces = false) (O : cd_Ok G y_La_law code 7 ret [] room_1 C) {b L : Nat} {xs : Nat → Int32} (hX : va_X b L xs (cx_s C) G.2.2) (hb : b < G.2.2.size) (hL : L ≤ 3072) {x m ou : Nat} {j : Nat} (hj : 6 * j + 6 ≤ L) {k n : Nat} (hk9 : k ≤ 100 + 64 * j) (hn9 : n ≤ 2000 + 200 * j) {w : cd_Wd} {A : cd_A} {B : Nat → Nat} {σ : cd_S} {g : Nat → Bool} (hJ : LJ w x m ou A B σ g)
    (tail : ∀ (k n : Nat) (w : cd_Wd) (A : cd_A) (B : Nat → Nat) (σ : cd_S) (g : Nat → Bool) (v5 v6 : Option Value), k ≤ 100 + 64 * (j + 1) → n ≤ 2000 + 200 * (j + 1) → LJ w x m ou A B σ g → cd_Go G l C Z k n w 1504 [some (.ref b), some (.ref x), some (.ref m), some (.ref ou), some (.int (nI (6 * j))), v5, v6] []) : cd_Go G l C Z k n w 1128 [some (.ref b), some (.ref x), some (.ref m), some (.ref ou), some (.int (nI (6 * j))), none, none] [] := by
  first | refine g_aload_n O 1 d_La_law_1128 rfl rfl ?_ | refine g_aload_nq O 1 d_La_law_1128 rfl rfl ?_
  first | refine g_aload_n O 0 d_La_law_1129 rfl rfl ?_ | refine g_aload_nq O 0 d_La_law_1129 rfl rfl ?_
  refine g_iload O d_La_law_1130 rfl ?_
  refine g_iconst (v := 1) O d_La_law_1132 (by decide) ?_
  refine g_iadd O d_La_law_1133 ?_
  rw [show nI (6 * j) + 1 = nI (6 * j + 1) from nI_add (6 * j) 1]
  refine g_sld O hX hb (ix_in (show 6 * j + 1 < L by omega) (by omega)) d_La_law_1134 ?_
  first | refine g_aload_n O 0 d_La_law_1135 rfl rfl ?_ | refine g_aload_nq O 0 d_La_law_1135 rfl rfl ?_
  refine g_iload O d_La_law_1136 rfl ?_
  refine g_iconst (v := 2) O d_La_law_1138 (by decide) ?_
  refine g_iadd O d_La_law_1139 ?_
  rw [show nI (6 * j) + 2 = nI (6 * j + 2) from nI_add (6 * j) 2]
  refine g_sld O hX hb (ix_in (show 6 * j + 2 < L by omega) (by omega)) d_La_law_1140 ?_
  first | refine g_aload_n O 0 d_La_law_1141 rfl rfl ?_ | refine g_aload_nq O 0 d_La_law_1141 rfl rfl ?_
  refine g_iload O d_La_law_1142 rfl ?_
  refine g_iconst (v := 3) O d_La_law_1144 (by decide) ?_
  refine g_iadd O d_La_law_1145 ?_
  rw [show nI (6 * j) + 3 = nI (6 * j + 3) from nI_add (6 * j) 3]
  refine g_sld O hX hb (ix_in (show 6 * j + 3 < L by omega) (by omega)) d_La_law_1146 ?_
  first | refine g_aload_n O 0 d_La_law_1147 rfl rfl ?_ | refine g_aload_nq O 0 d_La_law_1147 rfl rfl ?_
  refine g_iload O d_La_law_1148 rfl ?_
  refine g_iconst (v := 4) O d_La_law_1150 (by decide) ?_
  refine g_iadd O d_La_law_1151 ?_
  rw [show nI (6 * j) + 4 = nI (6 * j + 4) from nI_add (6 * j) 4]
  refine g_sld O hX hb (ix_in (show 6 * j + 4 < L by omega) (by omega)) d_La_law_1152 ?_
  first | refine g_aload_n O 3 d_La_law_1153 rfl rfl ?_ | refine g_aload_nq O 3 d_La_law_1153 rfl rfl ?_
  refine g_calls (N := 9) (mc := 6) (ms := 36) (av := [_, _, _, _, _, _]) O (Or.inr ⟨_, _, _, cw_La_take⟩) pl_La ml_La_123 st_La_take in_La rfl d_La_law_1154 rfl (Nat.le_of_ble_eq_true rfl) (Nat.le_of_ble_eq_true rfl) (by show _ ≤ 839478; omega) (by show _ ≤ 6577669; omega) ?_
  refine lw_take hst hJ.1 hJ.2.2.2.1 hJ.2.2.2.2.1 hJ.2.2.2.2.2.1 hJ.2.2.2.2.2.2.2.1 rfl (fun w1 A1 hR1 hF1 hs1 hj1 => ?_)
  obtain ⟨hM1, hk1, hl1, hsp, hou1⟩ := hJ.cls hF1 hs1
  have hI2 := Iv_take hJ.2.2.2.1 hJ.1.wf hJ.2.1.D6 hJ.2.2.1 (xs (nI (6 * j + 1)).toNatClampNeg) (xs (nI (6 * j + 2)).toNatClampNeg) (xs (nI (6 * j + 3)).toNatClampNeg) (xs (nI (6 * j + 4)).toNatClampNeg)
  have hcd := cdn_take σ (xs (nI (6 * j + 1)).toNatClampNeg) (xs (nI (6 * j + 2)).toNatClampNeg) (xs (nI (6 * j + 3)).toNatClampNeg) (xs (nI (6 * j + 4)).toNatClampNeg)
  generalize hS : sp_take σ (xs (nI (6 * j + 1)).toNatClampNeg) (xs (nI (6 * j + 2)).toNatClampNeg) (xs (nI (6 * j + 3)).toNatClampNeg) (xs (nI (6 * j + 4)).toNatClampNeg) = r at hR1 hs1 hj1 hsp hou1 hI2 hcd ⊢
  obtain ⟨c, a, τ⟩ := r
  simp only at hR1 hs1 hj1 hsp hou1 hI2 hcd
  change cd_Go _ _ _ _ _ _ _ _ _ _
  refine g_istore O d_La_law_1157 (Nat.le_of_ble_eq_true rfl) ?_
  first | refine g_aload_n O 2 d_La_law_1159 rfl rfl ?_ | refine g_aload_nq O 2 d_La_law_1159 rfl rfl ?_
  first | refine g_aload_n O 0 d_La_law_1160 rfl rfl ?_ | refine g_aload_nq O 0 d_La_law_1160 rfl rfl ?_
  refine g_iload O d_La_law_1161 rfl ?_
  refine g_iconst (v := 1) O d_La_law_1163 (by decide) ?_
  refine g_iadd O d_La_law_1164 ?_
  rw [show nI (6 * j) + 1 = nI (6 * j + 1) from nI_add (6 * j) 1]
  refine g_sld O hX hb (ix_in (show 6 * j + 1 < L by omega) (by omega)) d_La_law_1165 ?_
  first | refine g_aload_n O 0 d_La_law_1166 rfl rfl ?_ | refine g_aload_nq O 0 d_La_law_1166 rfl rfl ?_
  refine g_iload O d_La_law_1167 rfl ?_
  refine g_iconst (v := 2) O d_La_law_1169 (by decide) ?_
  refine g_iadd O d_La_law_1170 ?_
  rw [show nI (6 * j) + 2 = nI (6 * j + 2) from nI_add (6 * j) 2]
  refine g_sld O hX hb (ix_in (show 6 * j + 2 < L by omega) (by omega)) d_La_law_1171 ?_
  first | refine g_aload_n O 0 d_La_law_1172 rfl rfl ?_ | refine g_aload_nq O 0 d_La_law_1172 rfl rfl ?_
  refine g_iload O d_La_law_1173 rfl ?_
  refine g_iconst (v := 3) O d_La_law_1175 (by decide) ?_
  refine g_iadd O d_La_law_1176 ?_
  rw [show nI (6 * j) + 3 = nI (6 * j + 3) from nI_add (6 * j) 3]
  refine g_sld O hX hb (ix_in (show 6 * j + 3 < L by omega) (by omega)) d_La_law_1177 ?_
  first | refine g_aload_n O 0 d_La_law_1178 rfl rfl ?_ | refine g_aload_nq O 0 d_La_law_1178 rfl rfl ?_
  refine g_iload O d_La_law_1179 rfl ?_
  refine g_iconst (v := 4) O d_La_law_1181 (by decide) ?_
  refine g_iadd O d_La_law_1182 ?_
  rw [show nI (6 * j) + 4 = nI (6 * j + 4) from nI_add (6 * j) 4]
  refine g_sld O hX hb (ix_in (show 6 * j + 4 < L by omega) (by omega)) d_La_law_1183 ?_
  refine g_callv (N := 3) (mc := 0) (ms := 0) (av := [_, _, _, _]) O (Or.inl ⟨_, _, cw_Mo_take⟩) pl_Mo (ci := 6) (q := q_Mo) rfl hM1.km ml_La_125 im_Mo_take se_Mo_take rfl d_La_law_1184 rfl (Nat.le_of_ble_eq_true rfl) (Nat.le_of_ble_eq_true rfl) (by show _ ≤ 839478; omega) (by show _ ≤ 6577669; omega) ?_
  refine om_take hM1 hJ.2.2.1 hJ.2.2.2.1 hS (fun w2 g2 v2 hM2 hL2 hF2 hc2 hv2 => ?_)
  simp only at hM2 hL2 hc2 hv2
  obtain ⟨hJ2, hj2⟩ := LJ.mod hR1 hk1 hl1 hsp hou1 hJ.2.2.2.2.2.2.2.2 hM2 hL2 hI2 hF2
  change cd_Go _ _ _ _ _ _ _ _ _ _
  refine g_istore O d_La_law_1187 (Nat.le_of_ble_eq_true rfl) ?_
  first | refine g_aload_n O 2 d_La_law_1189 rfl rfl ?_ | refine g_aload_nq O 2 d_La_law_1189 rfl rfl ?_
  refine g_callv (N := 0) (mc := 0) (ms := 0) (av := []) O (Or.inl ⟨_, _, cw_Mo_thrown⟩) pl_Mo (ci := 6) (q := q_Mo) rfl hM2.km ml_La_82 im_Mo_thrown se_Mo_thrown rfl d_La_law_1190 rfl (Nat.le_of_ble_eq_true rfl) (Nat.le_of_ble_eq_true rfl) (by show _ ≤ 839478; omega) (by show _ ≤ 6577669; omega) ?_
  refine ct_Mo_thrown hM2.km ?_
  rw [hc2]
  change cd_Go _ _ _ _ _ _ _ _ _ _
  refine g_iload O d_La_law_1193 rfl ?_
  refine g_icmp_eq  O 1200 d_La_law_1195 (by decide) (fun c1195 => ?_) (fun c1195 => ?_)
  · refine g_iload O d_La_law_1200 rfl ?_
    refine g_if_ne  O 1217 d_La_law_1202 (by decide) (fun c1202 => ?_) (fun c1202 => ?_)
    · refine g_goto O 1504 d_La_law_1217 (by decide) ?_
      exact tail _ _ w2 A1 B τ g2 _ _ (by omega) (by omega) hJ2
    · have h0 : c = 0 := (nI_eq (b := 0) (by omega) (by omega)).mp c1202
      have e9 : cd_J w2 ou (0 : Int32).toNatClampNeg = v2.toInt64 := by rw [show (0 : Int32).toNatClampNeg = 0 from by decide, hj2, hj1 h0, hv2 h0]
      first | refine g_aload_n O 3 d_La_law_1205 rfl rfl ?_ | refine g_aload_nq O 3 d_La_law_1205 rfl rfl ?_
      refine g_iconst (v := 0) O d_La_law_1206 (by decide) ?_
      refine g_lald O 2 rfl rfl hJ2.2.2.2.2.1 (vin0 hJ2.2.2.2.2.2.1) d_La_law_1207 ?_
      refine g_iload O d_La_law_1208 rfl ?_
      refine g_i2l O d_La_law_1210 rfl ?_
      refine g_lcmp O d_La_law_1211 ?_
      refine g_if_eq  O 1217 d_La_law_1212 (by decide) (fun c1212 => ?_) (fun c1212 => ?_)
      · refine g_goto O 1504 d_La_law_1217 (by decide) ?_
        exact tail _ _ w2 A1 B τ g2 _ _ (by omega) (by omega) hJ2
      · exact absurd (by rw [e9]; exact lg_self _) c1212
  · exact absurd rfl c1195
set_option maxHeartbeats 4000000 in
set_option maxRecDepth 100000 in
theorem law_c13 {G : cd_Gl} {l : Launch} {C : cd_Cx} {Z : State → Prop} (hst : l.stackTraces = false) (O : cd_Ok G y_La_law code 7 ret [] room_1 C) {b L : Nat} {xs : Nat → Int32} (hX : va_X b L xs (cx_s C) G.2.2) (hb : b < G.2.2.size) (hL : L ≤ 3072) {x m ou : Nat} {j : Nat} (hj : 6 * j + 6 ≤ L) {k n : Nat} (hk9 : k ≤ 100 + 64 * j) (hn9 : n ≤ 2000 + 200 * j) {w : cd_Wd} {A : cd_A} {B : Nat → Nat} {σ : cd_S} {g : Nat → Bool} (hJ : LJ w x m ou A B σ g)
    (tail : ∀ (k n : Nat) (w : cd_Wd) (A : cd_A) (B : Nat → Nat) (σ : cd_S) (g : Nat → Bool) (v5 v6 : Option Value), k ≤ 100 + 64 * (j + 1) → n ≤ 2000 + 200 * (j + 1) → LJ w x m ou A B σ g → cd_Go G l C Z k n w 1504 [some (.ref b), some (.ref x), some (.ref m), some (.ref ou), some (.int (nI (6 * j))), v5, v6] []) : cd_Go G l C Z k n w 1220 [some (.ref b), some (.ref x), some (.ref m), some (.ref ou), some (.int (nI (6 * j))), none, none] [] := by
  first | refine g_aload_n O 1 d_La_law_1220 rfl rfl ?_ | refine g_aload_nq O 1 d_La_law_1220 rfl rfl ?_
  first | refine g_aload_n O 0 d_La_law_1221 rfl rfl ?_ | refine g_aload_nq O 0 d_La_law_1221 rfl rfl ?_
  refine g_iload O d_La_law_1222 rfl ?_
  refine g_iconst (v := 1) O d_La_law_1224 (by decide) ?_
  refine g_iadd O d_La_law_1225 ?_
  rw [show nI (6 * j) + 1 = nI (6 * j + 1) from nI_add (6 * j) 1]
  refine g_sld O hX hb (ix_in (show 6 * j + 1 < L by omega) (by omega)) d_La_law_1226 ?_
  first | refine g_aload_n O 0 d_La_law_1227 rfl rfl ?_ | refine g_aload_nq O 0 d_La_law_1227 rfl rfl ?_
  refine g_iload O d_La_law_1228 rfl ?_
  refine g_iconst (v := 2) O d_La_law_1230 (by decide) ?_
  refine g_iadd O d_La_law_1231 ?_
  rw [show nI (6 * j) + 2 = nI (6 * j + 2) from nI_add (6 * j) 2]
  refine g_sld O hX hb (ix_in (show 6 * j + 2 < L by omega) (by omega)) d_La_law_1232 ?_
  first | refine g_aload_n O 3 d_La_law_1233 rfl rfl ?_ | refine g_aload_nq O 3 d_La_law_1233 rfl rfl ?_
  refine g_calls (N := 9) (mc := 4) (ms := 24) (av := [_, _, _, _]) O (Or.inr ⟨_, _, _, cw_La_free⟩) pl_La ml_La_126 st_La_free in_La rfl d_La_law_1234 rfl (Nat.le_of_ble_eq_true rfl) (Nat.le_of_ble_eq_true rfl) (by show _ ≤ 839478; omega) (by show _ ≤ 6577669; omega) ?_
  refine lw_free hst hJ.1 hJ.2.2.2.1 hJ.2.2.2.2.1 hJ.2.2.2.2.2.1 hJ.2.2.2.2.2.2.2.1 rfl (fun w1 A1 hR1 hF1 hs1 hj1 => ?_)
  obtain ⟨hM1, hk1, hl1, hsp, hou1⟩ := hJ.cls hF1 hs1
  have hI2 := Iv_fre hJ.2.2.2.1 hJ.1.wf hJ.2.1.D6 hJ.2.2.1 (xs (nI (6 * j + 1)).toNatClampNeg) (xs (nI (6 * j + 2)).toNatClampNeg)
  have hcd := cdn_free σ (xs (nI (6 * j + 1)).toNatClampNeg) (xs (nI (6 * j + 2)).toNatClampNeg)
  generalize hS : sp_free σ (xs (nI (6 * j + 1)).toNatClampNeg) (xs (nI (6 * j + 2)).toNatClampNeg) = r at hR1 hs1 hj1 hsp hou1 hI2 hcd ⊢
  obtain ⟨c, a, τ⟩ := r
  simp only at hR1 hs1 hj1 hsp hou1 hI2 hcd
  change cd_Go _ _ _ _ _ _ _ _ _ _
  refine g_istore O d_La_law_1237 (Nat.le_of_ble_eq_true rfl) ?_
  first | refine g_aload_n O 2 d_La_law_1239 rfl rfl ?_ | refine g_aload_nq O 2 d_La_law_1239 rfl rfl ?_
  first | refine g_aload_n O 0 d_La_law_1240 rfl rfl ?_ | refine g_aload_nq O 0 d_La_law_1240 rfl rfl ?_
  refine g_iload O d_La_law_1241 rfl ?_
  refine g_iconst (v := 1) O d_La_law_1243 (by decide) ?_
  refine g_iadd O d_La_law_1244 ?_
  rw [show nI (6 * j) + 1 = nI (6 * j + 1) from nI_add (6 * j) 1]
  refine g_sld O hX hb (ix_in (show 6 * j + 1 < L by omega) (by omega)) d_La_law_1245 ?_
  first | refine g_aload_n O 0 d_La_law_1246 rfl rfl ?_ | refine g_aload_nq O 0 d_La_law_1246 rfl rfl ?_
  refine g_iload O d_La_law_1247 rfl ?_
  refine g_iconst (v := 2) O d_La_law_1249 (by decide) ?_
  refine g_iadd O d_La_law_1250 ?_
  rw [show nI (6 * j) + 2 = nI (6 * j + 2) from nI_add (6 * j) 2]
  refine g_sld O hX hb (ix_in (show 6 * j + 2 < L by omega) (by omega)) d_La_law_1251 ?_
  refine g_callv (N := 3) (mc := 0) (ms := 0) (av := [_, _]) O (Or.inl ⟨_, _, cw_Mo_free⟩) pl_Mo (ci := 6) (q := q_Mo) rfl hM1.km ml_La_128 im_Mo_free se_Mo_free rfl d_La_law_1252 rfl (Nat.le_of_ble_eq_true rfl) (Nat.le_of_ble_eq_true rfl) (by show _ ≤ 839478; omega) (by show _ ≤ 6577669; omega) ?_
  refine om_free hM1 hJ.2.2.1 hJ.2.2.2.1 hS (fun w2 g2 v2 hM2 hL2 hF2 hc2 hv2 => ?_)
  simp only at hM2 hL2 hc2 hv2
  obtain ⟨hJ2, hj2⟩ := LJ.mod hR1 hk1 hl1 hsp hou1 hJ.2.2.2.2.2.2.2.2 hM2 hL2 hI2 hF2
  change cd_Go _ _ _ _ _ _ _ _ _ _
  refine g_istore O d_La_law_1255 (Nat.le_of_ble_eq_true rfl) ?_
  first | refine g_aload_n O 2 d_La_law_1257 rfl rfl ?_ | refine g_aload_nq O 2 d_La_law_1257 rfl rfl ?_
  refine g_callv (N := 0) (mc := 0) (ms := 0) (av := []) O (Or.inl ⟨_, _, cw_Mo_thrown⟩) pl_Mo (ci := 6) (q := q_Mo) rfl hM2.km ml_La_82 im_Mo_thrown se_Mo_thrown rfl d_La_law_1258 rfl (Nat.le_of_ble_eq_true rfl) (Nat.le_of_ble_eq_true rfl) (by show _ ≤ 839478; omega) (by show _ ≤ 6577669; omega) ?_
  refine ct_Mo_thrown hM2.km ?_
  rw [hc2]
  change cd_Go _ _ _ _ _ _ _ _ _ _
  refine g_iload O d_La_law_1261 rfl ?_
  refine g_icmp_eq  O 1268 d_La_law_1263 (by decide) (fun c1263 => ?_) (fun c1263 => ?_)
  · refine g_iload O d_La_law_1268 rfl ?_
    refine g_if_ne  O 1285 d_La_law_1270 (by decide) (fun c1270 => ?_) (fun c1270 => ?_)
    · refine g_goto O 1504 d_La_law_1285 (by decide) ?_
      exact tail _ _ w2 A1 B τ g2 _ _ (by omega) (by omega) hJ2
    · have h0 : c = 0 := (nI_eq (b := 0) (by omega) (by omega)).mp c1270
      have e9 : cd_J w2 ou (0 : Int32).toNatClampNeg = v2.toInt64 := by rw [show (0 : Int32).toNatClampNeg = 0 from by decide, hj2, hj1 h0, hv2 h0]
      first | refine g_aload_n O 3 d_La_law_1273 rfl rfl ?_ | refine g_aload_nq O 3 d_La_law_1273 rfl rfl ?_
      refine g_iconst (v := 0) O d_La_law_1274 (by decide) ?_
      refine g_lald O 2 rfl rfl hJ2.2.2.2.2.1 (vin0 hJ2.2.2.2.2.2.1) d_La_law_1275 ?_
      refine g_iload O d_La_law_1276 rfl ?_
      refine g_i2l O d_La_law_1278 rfl ?_
      refine g_lcmp O d_La_law_1279 ?_
      refine g_if_eq  O 1285 d_La_law_1280 (by decide) (fun c1280 => ?_) (fun c1280 => ?_)
      · refine g_goto O 1504 d_La_law_1285 (by decide) ?_
        exact tail _ _ w2 A1 B τ g2 _ _ (by omega) (by omega) hJ2
      · exact absurd (by rw [e9]; exact lg_self _) c1280
  · exact absurd rfl c1263
set_option maxHeartbeats 4000000 in
set_option maxRecDepth 100000 in
theorem law_c14 {G : cd_Gl} {l : Launch} {C : cd_Cx} {Z : State → Prop} (hst : l.stackTraces = false) (O : cd_Ok G y_La_law code 7 ret [] room_1 C) {b L : Nat} {xs : Nat → Int32} (hX : va_X b L xs (cx_s C) G.2.2) (hb : b < G.2.2.size) (hL : L ≤ 3072) {x m ou : Nat} {j : Nat} (hj : 6 * j + 6 ≤ L) {k n : Nat} (hk9 : k ≤ 100 + 64 * j) (hn9 : n ≤ 2000 + 200 * j) {w : cd_Wd} {A : cd_A} {B : Nat → Nat} {σ : cd_S} {g : Nat → Bool} (hJ : LJ w x m ou A B σ g)
    (tail : ∀ (k n : Nat) (w : cd_Wd) (A : cd_A) (B : Nat → Nat) (σ : cd_S) (g : Nat → Bool) (v5 v6 : Option Value), k ≤ 100 + 64 * (j + 1) → n ≤ 2000 + 200 * (j + 1) → LJ w x m ou A B σ g → cd_Go G l C Z k n w 1504 [some (.ref b), some (.ref x), some (.ref m), some (.ref ou), some (.int (nI (6 * j))), v5, v6] []) : cd_Go G l C Z k n w 1288 [some (.ref b), some (.ref x), some (.ref m), some (.ref ou), some (.int (nI (6 * j))), none, none] [] := by
  first | refine g_aload_n O 1 d_La_law_1288 rfl rfl ?_ | refine g_aload_nq O 1 d_La_law_1288 rfl rfl ?_
  first | refine g_aload_n O 0 d_La_law_1289 rfl rfl ?_ | refine g_aload_nq O 0 d_La_law_1289 rfl rfl ?_
  refine g_iload O d_La_law_1290 rfl ?_
  refine g_iconst (v := 1) O d_La_law_1292 (by decide) ?_
  refine g_iadd O d_La_law_1293 ?_
  rw [show nI (6 * j) + 1 = nI (6 * j + 1) from nI_add (6 * j) 1]
  refine g_sld O hX hb (ix_in (show 6 * j + 1 < L by omega) (by omega)) d_La_law_1294 ?_
  first | refine g_aload_n O 3 d_La_law_1295 rfl rfl ?_ | refine g_aload_nq O 3 d_La_law_1295 rfl rfl ?_
  refine g_calls (N := 8) (mc := 1) (ms := 6) (av := [_, _, _]) O (Or.inr ⟨_, _, _, cw_La_end⟩) pl_La ml_La_129 st_La_end in_La rfl d_La_law_1296 rfl (Nat.le_of_ble_eq_true rfl) (Nat.le_of_ble_eq_true rfl) (by show _ ≤ 839478; omega) (by show _ ≤ 6577669; omega) ?_
  refine lw_end hst hJ.1 hJ.2.2.2.1 hJ.2.2.2.2.1 hJ.2.2.2.2.2.1 hJ.2.2.2.2.2.2.2.1 rfl (fun w1 A1 hR1 hF1 hs1 hj1 => ?_)
  obtain ⟨hM1, hk1, hl1, hsp, hou1⟩ := hJ.cls hF1 hs1
  have hI2 := Iv_en hJ.2.2.2.1 hJ.1.wf hJ.2.1.D6 hJ.2.2.1 (xs (nI (6 * j + 1)).toNatClampNeg)
  have hcd := cdn_end σ (xs (nI (6 * j + 1)).toNatClampNeg)
  generalize hS : sp_end σ (xs (nI (6 * j + 1)).toNatClampNeg) = r at hR1 hs1 hj1 hsp hou1 hI2 hcd ⊢
  obtain ⟨c, a, τ⟩ := r
  simp only at hR1 hs1 hj1 hsp hou1 hI2 hcd
  change cd_Go _ _ _ _ _ _ _ _ _ _
  refine g_istore O d_La_law_1299 (Nat.le_of_ble_eq_true rfl) ?_
  first | refine g_aload_n O 2 d_La_law_1301 rfl rfl ?_ | refine g_aload_nq O 2 d_La_law_1301 rfl rfl ?_
  first | refine g_aload_n O 0 d_La_law_1302 rfl rfl ?_ | refine g_aload_nq O 0 d_La_law_1302 rfl rfl ?_
  refine g_iload O d_La_law_1303 rfl ?_
  refine g_iconst (v := 1) O d_La_law_1305 (by decide) ?_
  refine g_iadd O d_La_law_1306 ?_
  rw [show nI (6 * j) + 1 = nI (6 * j + 1) from nI_add (6 * j) 1]
  refine g_sld O hX hb (ix_in (show 6 * j + 1 < L by omega) (by omega)) d_La_law_1307 ?_
  refine g_callv (N := 3) (mc := 0) (ms := 0) (av := [_]) O (Or.inl ⟨_, _, cw_Mo_end⟩) pl_Mo (ci := 6) (q := q_Mo) rfl hM1.km ml_La_131 im_Mo_end se_Mo_end rfl d_La_law_1308 rfl (Nat.le_of_ble_eq_true rfl) (Nat.le_of_ble_eq_true rfl) (by show _ ≤ 839478; omega) (by show _ ≤ 6577669; omega) ?_
  refine om_end hM1 hJ.2.2.1 hJ.2.2.2.1 hS (fun w2 g2 v2 hM2 hL2 hF2 hc2 hv2 => ?_)
  simp only at hM2 hL2 hc2 hv2
  obtain ⟨hJ2, hj2⟩ := LJ.mod hR1 hk1 hl1 hsp hou1 hJ.2.2.2.2.2.2.2.2 hM2 hL2 hI2 hF2
  change cd_Go _ _ _ _ _ _ _ _ _ _
  refine g_istore O d_La_law_1311 (Nat.le_of_ble_eq_true rfl) ?_
  first | refine g_aload_n O 2 d_La_law_1313 rfl rfl ?_ | refine g_aload_nq O 2 d_La_law_1313 rfl rfl ?_
  refine g_callv (N := 0) (mc := 0) (ms := 0) (av := []) O (Or.inl ⟨_, _, cw_Mo_thrown⟩) pl_Mo (ci := 6) (q := q_Mo) rfl hM2.km ml_La_82 im_Mo_thrown se_Mo_thrown rfl d_La_law_1314 rfl (Nat.le_of_ble_eq_true rfl) (Nat.le_of_ble_eq_true rfl) (by show _ ≤ 839478; omega) (by show _ ≤ 6577669; omega) ?_
  refine ct_Mo_thrown hM2.km ?_
  rw [hc2]
  change cd_Go _ _ _ _ _ _ _ _ _ _
  refine g_iload O d_La_law_1317 rfl ?_
  refine g_icmp_eq  O 1324 d_La_law_1319 (by decide) (fun c1319 => ?_) (fun c1319 => ?_)
  · refine g_iload O d_La_law_1324 rfl ?_
    refine g_if_ne  O 1341 d_La_law_1326 (by decide) (fun c1326 => ?_) (fun c1326 => ?_)
    · refine g_goto O 1504 d_La_law_1341 (by decide) ?_
      exact tail _ _ w2 A1 B τ g2 _ _ (by omega) (by omega) hJ2
    · have h0 : c = 0 := (nI_eq (b := 0) (by omega) (by omega)).mp c1326
      have e9 : cd_J w2 ou (0 : Int32).toNatClampNeg = v2.toInt64 := by rw [show (0 : Int32).toNatClampNeg = 0 from by decide, hj2, hj1 h0, hv2 h0]
      first | refine g_aload_n O 3 d_La_law_1329 rfl rfl ?_ | refine g_aload_nq O 3 d_La_law_1329 rfl rfl ?_
      refine g_iconst (v := 0) O d_La_law_1330 (by decide) ?_
      refine g_lald O 2 rfl rfl hJ2.2.2.2.2.1 (vin0 hJ2.2.2.2.2.2.1) d_La_law_1331 ?_
      refine g_iload O d_La_law_1332 rfl ?_
      refine g_i2l O d_La_law_1334 rfl ?_
      refine g_lcmp O d_La_law_1335 ?_
      refine g_if_eq  O 1341 d_La_law_1336 (by decide) (fun c1336 => ?_) (fun c1336 => ?_)
      · refine g_goto O 1504 d_La_law_1341 (by decide) ?_
        exact tail _ _ w2 A1 B τ g2 _ _ (by omega) (by omega) hJ2
      · exact absurd (by rw [e9]; exact lg_self _) c1336
  · exact absurd rfl c1319
set_option maxHeartbeats 4000000 in
set_option maxRecDepth 100000 in
theorem law_c15 {G : cd_Gl} {l : Launch} {C : cd_Cx} {Z : State → Prop} (hst : l.stackTraces = false) (O : cd_Ok G y_La_law code 7 ret [] room_1 C) {b L : Nat} {xs : Nat → Int32} (hX : va_X b L xs (cx_s C) G.2.2) (hb : b < G.2.2.size) (hL : L ≤ 3072) {x m ou : Nat} {j : Nat} (hj : 6 * j + 6 ≤ L) {k n : Nat} (hk9 : k ≤ 100 + 64 * j) (hn9 : n ≤ 2000 + 200 * j) {w : cd_Wd} {A : cd_A} {B : Nat → Nat} {σ : cd_S} {g : Nat → Bool} (hJ : LJ w x m ou A B σ g)
    (tail : ∀ (k n : Nat) (w : cd_Wd) (A : cd_A) (B : Nat → Nat) (σ : cd_S) (g : Nat → Bool) (v5 v6 : Option Value), k ≤ 100 + 64 * (j + 1) → n ≤ 2000 + 200 * (j + 1) → LJ w x m ou A B σ g → cd_Go G l C Z k n w 1504 [some (.ref b), some (.ref x), some (.ref m), some (.ref ou), some (.int (nI (6 * j))), v5, v6] []) : cd_Go G l C Z k n w 1344 [some (.ref b), some (.ref x), some (.ref m), some (.ref ou), some (.int (nI (6 * j))), none, none] [] := by
  first | refine g_aload_n O 1 d_La_law_1344 rfl rfl ?_ | refine g_aload_nq O 1 d_La_law_1344 rfl rfl ?_
  first | refine g_aload_n O 0 d_La_law_1345 rfl rfl ?_ | refine g_aload_nq O 0 d_La_law_1345 rfl rfl ?_
  refine g_iload O d_La_law_1346 rfl ?_
  refine g_iconst (v := 1) O d_La_law_1348 (by decide) ?_
  refine g_iadd O d_La_law_1349 ?_
  rw [show nI (6 * j) + 1 = nI (6 * j + 1) from nI_add (6 * j) 1]
  refine g_sld O hX hb (ix_in (show 6 * j + 1 < L by omega) (by omega)) d_La_law_1350 ?_
  first | refine g_aload_n O 0 d_La_law_1351 rfl rfl ?_ | refine g_aload_nq O 0 d_La_law_1351 rfl rfl ?_
  refine g_iload O d_La_law_1352 rfl ?_
  refine g_iconst (v := 2) O d_La_law_1354 (by decide) ?_
  refine g_iadd O d_La_law_1355 ?_
  rw [show nI (6 * j) + 2 = nI (6 * j + 2) from nI_add (6 * j) 2]
  refine g_sld O hX hb (ix_in (show 6 * j + 2 < L by omega) (by omega)) d_La_law_1356 ?_
  first | refine g_aload_n O 0 d_La_law_1357 rfl rfl ?_ | refine g_aload_nq O 0 d_La_law_1357 rfl rfl ?_
  refine g_iload O d_La_law_1358 rfl ?_
  refine g_iconst (v := 3) O d_La_law_1360 (by decide) ?_
  refine g_iadd O d_La_law_1361 ?_
  rw [show nI (6 * j) + 3 = nI (6 * j + 3) from nI_add (6 * j) 3]
  refine g_sld O hX hb (ix_in (show 6 * j + 3 < L by omega) (by omega)) d_La_law_1362 ?_
  refine g_callv (N := 2) (mc := 0) (ms := 0) (av := [_, _, _]) O (Or.inl ⟨_, _, cw_Cd_holds⟩) pl_Cd (ci := 0) (q := q_Cd) rfl hJ.1.top.1 ml_La_132 im_Cd_holds se_Cd_holds rfl d_La_law_1363 rfl (Nat.le_of_ble_eq_true rfl) (Nat.le_of_ble_eq_true rfl) (by show _ ≤ 839478; omega) (by show _ ≤ 6577669; omega) ?_
  refine op_holds hJ.1 hJ.2.2.2.1 ?_
  change cd_Go _ _ _ _ _ _ _ _ _ _
  first | refine g_aload_n O 2 d_La_law_1366 rfl rfl ?_ | refine g_aload_nq O 2 d_La_law_1366 rfl rfl ?_
  first | refine g_aload_n O 0 d_La_law_1367 rfl rfl ?_ | refine g_aload_nq O 0 d_La_law_1367 rfl rfl ?_
  refine g_iload O d_La_law_1368 rfl ?_
  refine g_iconst (v := 1) O d_La_law_1370 (by decide) ?_
  refine g_iadd O d_La_law_1371 ?_
  rw [show nI (6 * j) + 1 = nI (6 * j + 1) from nI_add (6 * j) 1]
  refine g_sld O hX hb (ix_in (show 6 * j + 1 < L by omega) (by omega)) d_La_law_1372 ?_
  first | refine g_aload_n O 0 d_La_law_1373 rfl rfl ?_ | refine g_aload_nq O 0 d_La_law_1373 rfl rfl ?_
  refine g_iload O d_La_law_1374 rfl ?_
  refine g_iconst (v := 2) O d_La_law_1376 (by decide) ?_
  refine g_iadd O d_La_law_1377 ?_
  rw [show nI (6 * j) + 2 = nI (6 * j + 2) from nI_add (6 * j) 2]
  refine g_sld O hX hb (ix_in (show 6 * j + 2 < L by omega) (by omega)) d_La_law_1378 ?_
  first | refine g_aload_n O 0 d_La_law_1379 rfl rfl ?_ | refine g_aload_nq O 0 d_La_law_1379 rfl rfl ?_
  refine g_iload O d_La_law_1380 rfl ?_
  refine g_iconst (v := 3) O d_La_law_1382 (by decide) ?_
  refine g_iadd O d_La_law_1383 ?_
  rw [show nI (6 * j) + 3 = nI (6 * j + 3) from nI_add (6 * j) 3]
  refine g_sld O hX hb (ix_in (show 6 * j + 3 < L by omega) (by omega)) d_La_law_1384 ?_
  refine g_callv (N := 3) (mc := 0) (ms := 0) (av := [_, _, _]) O (Or.inl ⟨_, _, cw_Mo_holds⟩) pl_Mo (ci := 6) (q := q_Mo) rfl hJ.2.1.km ml_La_135 im_Mo_holds se_Mo_holds rfl d_La_law_1385 rfl (Nat.le_of_ble_eq_true rfl) (Nat.le_of_ble_eq_true rfl) (by show _ ≤ 839478; omega) (by show _ ≤ 6577669; omega) ?_
  refine om_holds hJ.2.1 hJ.2.2.1 hJ.2.2.2.1 (fun w2 hM2 hF2 => ?_)
  obtain ⟨hJ2, -⟩ := LJ.mod hJ.1 hJ.2.2.2.2.1 hJ.2.2.2.2.2.1 hJ.2.2.2.2.2.2.1 hJ.2.2.2.2.2.2.2.1 hJ.2.2.2.2.2.2.2.2 hM2 hJ.2.2.1 hJ.2.2.2.1 hF2
  change cd_Go _ _ _ _ _ _ _ _ _ _
  refine g_icmp_eq  O 1504 d_La_law_1388 (by decide) (fun c1388 => ?_) (fun c1388 => ?_)
  · exact tail _ _ w2 A B σ g _ _ (by omega) (by omega) hJ2
  · exact absurd rfl c1388
set_option maxHeartbeats 4000000 in
set_option maxRecDepth 100000 in
theorem law_c16 {G : cd_Gl} {l : Launch} {C : cd_Cx} {Z : State → Prop} (hst : l.stackTraces = false) (O : cd_Ok G y_La_law code 7 ret [] room_1 C) {b L : Nat} {xs : Nat → Int32} (hX : va_X b L xs (cx_s C) G.2.2) (hb : b < G.2.2.size) (hL : L ≤ 3072) {x m ou : Nat} {j : Nat} (hj : 6 * j + 6 ≤ L) {k n : Nat} (hk9 : k ≤ 100 + 64 * j) (hn9 : n ≤ 2000 + 200 * j) {w : cd_Wd} {A : cd_A} {B : Nat → Nat} {σ : cd_S} {g : Nat → Bool} (hJ : LJ w x m ou A B σ g)
    (tail : ∀ (k n : Nat) (w : cd_Wd) (A : cd_A) (B : Nat → Nat) (σ : cd_S) (g : Nat → Bool) (v5 v6 : Option Value), k ≤ 100 + 64 * (j + 1) → n ≤ 2000 + 200 * (j + 1) → LJ w x m ou A B σ g → cd_Go G l C Z k n w 1504 [some (.ref b), some (.ref x), some (.ref m), some (.ref ou), some (.int (nI (6 * j))), v5, v6] []) : cd_Go G l C Z k n w 1393 [some (.ref b), some (.ref x), some (.ref m), some (.ref ou), some (.int (nI (6 * j))), none, none] [] := by
  first | refine g_aload_n O 1 d_La_law_1393 rfl rfl ?_ | refine g_aload_nq O 1 d_La_law_1393 rfl rfl ?_
  first | refine g_aload_n O 0 d_La_law_1394 rfl rfl ?_ | refine g_aload_nq O 0 d_La_law_1394 rfl rfl ?_
  refine g_iload O d_La_law_1395 rfl ?_
  refine g_iconst (v := 1) O d_La_law_1397 (by decide) ?_
  refine g_iadd O d_La_law_1398 ?_
  rw [show nI (6 * j) + 1 = nI (6 * j + 1) from nI_add (6 * j) 1]
  refine g_sld O hX hb (ix_in (show 6 * j + 1 < L by omega) (by omega)) d_La_law_1399 ?_
  first | refine g_aload_n O 0 d_La_law_1400 rfl rfl ?_ | refine g_aload_nq O 0 d_La_law_1400 rfl rfl ?_
  refine g_iload O d_La_law_1401 rfl ?_
  refine g_iconst (v := 2) O d_La_law_1403 (by decide) ?_
  refine g_iadd O d_La_law_1404 ?_
  rw [show nI (6 * j) + 2 = nI (6 * j + 2) from nI_add (6 * j) 2]
  refine g_sld O hX hb (ix_in (show 6 * j + 2 < L by omega) (by omega)) d_La_law_1405 ?_
  first | refine g_aload_n O 0 d_La_law_1406 rfl rfl ?_ | refine g_aload_nq O 0 d_La_law_1406 rfl rfl ?_
  refine g_iload O d_La_law_1407 rfl ?_
  refine g_iconst (v := 3) O d_La_law_1409 (by decide) ?_
  refine g_iadd O d_La_law_1410 ?_
  rw [show nI (6 * j) + 3 = nI (6 * j + 3) from nI_add (6 * j) 3]
  refine g_sld O hX hb (ix_in (show 6 * j + 3 < L by omega) (by omega)) d_La_law_1411 ?_
  refine g_callv (N := 2) (mc := 0) (ms := 0) (av := [_, _, _]) O (Or.inl ⟨_, _, cw_Cd_linked⟩) pl_Cd (ci := 0) (q := q_Cd) rfl hJ.1.top.1 ml_La_136 im_Cd_linked se_Cd_linked rfl d_La_law_1412 rfl (Nat.le_of_ble_eq_true rfl) (Nat.le_of_ble_eq_true rfl) (by show _ ≤ 839478; omega) (by show _ ≤ 6577669; omega) ?_
  refine op_linked hJ.1 ?_
  change cd_Go _ _ _ _ _ _ _ _ _ _
  first | refine g_aload_n O 2 d_La_law_1415 rfl rfl ?_ | refine g_aload_nq O 2 d_La_law_1415 rfl rfl ?_
  first | refine g_aload_n O 0 d_La_law_1416 rfl rfl ?_ | refine g_aload_nq O 0 d_La_law_1416 rfl rfl ?_
  refine g_iload O d_La_law_1417 rfl ?_
  refine g_iconst (v := 1) O d_La_law_1419 (by decide) ?_
  refine g_iadd O d_La_law_1420 ?_
  rw [show nI (6 * j) + 1 = nI (6 * j + 1) from nI_add (6 * j) 1]
  refine g_sld O hX hb (ix_in (show 6 * j + 1 < L by omega) (by omega)) d_La_law_1421 ?_
  first | refine g_aload_n O 0 d_La_law_1422 rfl rfl ?_ | refine g_aload_nq O 0 d_La_law_1422 rfl rfl ?_
  refine g_iload O d_La_law_1423 rfl ?_
  refine g_iconst (v := 2) O d_La_law_1425 (by decide) ?_
  refine g_iadd O d_La_law_1426 ?_
  rw [show nI (6 * j) + 2 = nI (6 * j + 2) from nI_add (6 * j) 2]
  refine g_sld O hX hb (ix_in (show 6 * j + 2 < L by omega) (by omega)) d_La_law_1427 ?_
  first | refine g_aload_n O 0 d_La_law_1428 rfl rfl ?_ | refine g_aload_nq O 0 d_La_law_1428 rfl rfl ?_
  refine g_iload O d_La_law_1429 rfl ?_
  refine g_iconst (v := 3) O d_La_law_1431 (by decide) ?_
  refine g_iadd O d_La_law_1432 ?_
  rw [show nI (6 * j) + 3 = nI (6 * j + 3) from nI_add (6 * j) 3]
  refine g_sld O hX hb (ix_in (show 6 * j + 3 < L by omega) (by omega)) d_La_law_1433 ?_
  refine g_callv (N := 3) (mc := 0) (ms := 0) (av := [_, _, _]) O (Or.inl ⟨_, _, cw_Mo_linked⟩) pl_Mo (ci := 6) (q := q_Mo) rfl hJ.2.1.km ml_La_139 im_Mo_linked se_Mo_linked rfl d_La_law_1434 rfl (Nat.le_of_ble_eq_true rfl) (Nat.le_of_ble_eq_true rfl) (by show _ ≤ 839478; omega) (by show _ ≤ 6577669; omega) ?_
  refine om_linked hJ.2.1 hJ.2.2.1 hJ.2.2.2.1 (fun w2 hM2 hF2 => ?_)
  obtain ⟨hJ2, -⟩ := LJ.mod hJ.1 hJ.2.2.2.2.1 hJ.2.2.2.2.2.1 hJ.2.2.2.2.2.2.1 hJ.2.2.2.2.2.2.2.1 hJ.2.2.2.2.2.2.2.2 hM2 hJ.2.2.1 hJ.2.2.2.1 hF2
  change cd_Go _ _ _ _ _ _ _ _ _ _
  refine g_icmp_eq  O 1504 d_La_law_1437 (by decide) (fun c1437 => ?_) (fun c1437 => ?_)
  · exact tail _ _ w2 A B σ g _ _ (by omega) (by omega) hJ2
  · exact absurd rfl c1437
set_option maxHeartbeats 4000000 in
set_option maxRecDepth 100000 in
theorem law_c17 {G : cd_Gl} {l : Launch} {C : cd_Cx} {Z : State → Prop} (hst : l.stackTraces = false) (O : cd_Ok G y_La_law code 7 ret [] room_1 C) {b L : Nat} {xs : Nat → Int32} (hX : va_X b L xs (cx_s C) G.2.2) (hb : b < G.2.2.size) (hL : L ≤ 3072) {x m ou : Nat} {j : Nat} (hj : 6 * j + 6 ≤ L) {k n : Nat} (hk9 : k ≤ 100 + 64 * j) (hn9 : n ≤ 2000 + 200 * j) {w : cd_Wd} {A : cd_A} {B : Nat → Nat} {σ : cd_S} {g : Nat → Bool} (hJ : LJ w x m ou A B σ g)
    (tail : ∀ (k n : Nat) (w : cd_Wd) (A : cd_A) (B : Nat → Nat) (σ : cd_S) (g : Nat → Bool) (v5 v6 : Option Value), k ≤ 100 + 64 * (j + 1) → n ≤ 2000 + 200 * (j + 1) → LJ w x m ou A B σ g → cd_Go G l C Z k n w 1504 [some (.ref b), some (.ref x), some (.ref m), some (.ref ou), some (.int (nI (6 * j))), v5, v6] []) : cd_Go G l C Z k n w 1442 [some (.ref b), some (.ref x), some (.ref m), some (.ref ou), some (.int (nI (6 * j))), none, none] [] := by
  first | refine g_aload_n O 1 d_La_law_1442 rfl rfl ?_ | refine g_aload_nq O 1 d_La_law_1442 rfl rfl ?_
  first | refine g_aload_n O 0 d_La_law_1443 rfl rfl ?_ | refine g_aload_nq O 0 d_La_law_1443 rfl rfl ?_
  refine g_iload O d_La_law_1444 rfl ?_
  refine g_iconst (v := 1) O d_La_law_1446 (by decide) ?_
  refine g_iadd O d_La_law_1447 ?_
  rw [show nI (6 * j) + 1 = nI (6 * j + 1) from nI_add (6 * j) 1]
  refine g_sld O hX hb (ix_in (show 6 * j + 1 < L by omega) (by omega)) d_La_law_1448 ?_
  first | refine g_aload_n O 0 d_La_law_1449 rfl rfl ?_ | refine g_aload_nq O 0 d_La_law_1449 rfl rfl ?_
  refine g_iload O d_La_law_1450 rfl ?_
  refine g_iconst (v := 2) O d_La_law_1452 (by decide) ?_
  refine g_iadd O d_La_law_1453 ?_
  rw [show nI (6 * j) + 2 = nI (6 * j + 2) from nI_add (6 * j) 2]
  refine g_sld O hX hb (ix_in (show 6 * j + 2 < L by omega) (by omega)) d_La_law_1454 ?_
  refine g_callv (N := 2) (mc := 0) (ms := 0) (av := [_, _]) O (Or.inl ⟨_, _, cw_Cd_slot⟩) pl_Cd (ci := 0) (q := q_Cd) rfl hJ.1.top.1 ml_La_140 im_Cd_slot se_Cd_slot rfl d_La_law_1455 rfl (Nat.le_of_ble_eq_true rfl) (Nat.le_of_ble_eq_true rfl) (by show _ ≤ 839478; omega) (by show _ ≤ 6577669; omega) ?_
  refine op_slot hJ.1 ?_
  change cd_Go _ _ _ _ _ _ _ _ _ _
  first | refine g_aload_n O 2 d_La_law_1458 rfl rfl ?_ | refine g_aload_nq O 2 d_La_law_1458 rfl rfl ?_
  first | refine g_aload_n O 0 d_La_law_1459 rfl rfl ?_ | refine g_aload_nq O 0 d_La_law_1459 rfl rfl ?_
  refine g_iload O d_La_law_1460 rfl ?_
  refine g_iconst (v := 1) O d_La_law_1462 (by decide) ?_
  refine g_iadd O d_La_law_1463 ?_
  rw [show nI (6 * j) + 1 = nI (6 * j + 1) from nI_add (6 * j) 1]
  refine g_sld O hX hb (ix_in (show 6 * j + 1 < L by omega) (by omega)) d_La_law_1464 ?_
  first | refine g_aload_n O 0 d_La_law_1465 rfl rfl ?_ | refine g_aload_nq O 0 d_La_law_1465 rfl rfl ?_
  refine g_iload O d_La_law_1466 rfl ?_
  refine g_iconst (v := 2) O d_La_law_1468 (by decide) ?_
  refine g_iadd O d_La_law_1469 ?_
  rw [show nI (6 * j) + 2 = nI (6 * j + 2) from nI_add (6 * j) 2]
  refine g_sld O hX hb (ix_in (show 6 * j + 2 < L by omega) (by omega)) d_La_law_1470 ?_
  refine g_callv (N := 3) (mc := 0) (ms := 0) (av := [_, _]) O (Or.inl ⟨_, _, cw_Mo_slot⟩) pl_Mo (ci := 6) (q := q_Mo) rfl hJ.2.1.km ml_La_143 im_Mo_slot se_Mo_slot rfl d_La_law_1471 rfl (Nat.le_of_ble_eq_true rfl) (Nat.le_of_ble_eq_true rfl) (by show _ ≤ 839478; omega) (by show _ ≤ 6577669; omega) ?_
  refine om_slot hJ.2.1 hJ.2.2.1 hJ.2.2.2.1 (fun w2 hM2 hF2 => ?_)
  obtain ⟨hJ2, -⟩ := LJ.mod hJ.1 hJ.2.2.2.2.1 hJ.2.2.2.2.2.1 hJ.2.2.2.2.2.2.1 hJ.2.2.2.2.2.2.2.1 hJ.2.2.2.2.2.2.2.2 hM2 hJ.2.2.1 hJ.2.2.2.1 hF2
  change cd_Go _ _ _ _ _ _ _ _ _ _
  refine g_icmp_eq  O 1504 d_La_law_1474 (by decide) (fun c1474 => ?_) (fun c1474 => ?_)
  · exact tail _ _ w2 A B σ g _ _ (by omega) (by omega) hJ2
  · exact absurd rfl c1474
set_option maxHeartbeats 4000000 in
set_option maxRecDepth 100000 in
theorem law_c18 {G : cd_Gl} {l : Launch} {C : cd_Cx} {Z : State → Prop} (hst : l.stackTraces = false) (O : cd_Ok G y_La_law code 7 ret [] room_1 C) {b L : Nat} {xs : Nat → Int32} (hX : va_X b L xs (cx_s C) G.2.2) (hb : b < G.2.2.size) (hL : L ≤ 3072) {x m ou : Nat} {j : Nat} (hj : 6 * j + 6 ≤ L) {k n : Nat} (hk9 : k ≤ 100 + 64 * j) (hn9 : n ≤ 2000 + 200 * j) {w : cd_Wd} {A : cd_A} {B : Nat → Nat} {σ : cd_S} {g : Nat → Bool} (hJ : LJ w x m ou A B σ g)
    (tail : ∀ (k n : Nat) (w : cd_Wd) (A : cd_A) (B : Nat → Nat) (σ : cd_S) (g : Nat → Bool) (v5 v6 : Option Value), k ≤ 100 + 64 * (j + 1) → n ≤ 2000 + 200 * (j + 1) → LJ w x m ou A B σ g → cd_Go G l C Z k n w 1504 [some (.ref b), some (.ref x), some (.ref m), some (.ref ou), some (.int (nI (6 * j))), v5, v6] []) : cd_Go G l C Z k n w 1479 [some (.ref b), some (.ref x), some (.ref m), some (.ref ou), some (.int (nI (6 * j))), none, none] [] := by
  first | refine g_aload_n O 1 d_La_law_1479 rfl rfl ?_ | refine g_aload_nq O 1 d_La_law_1479 rfl rfl ?_
  first | refine g_aload_n O 0 d_La_law_1480 rfl rfl ?_ | refine g_aload_nq O 0 d_La_law_1480 rfl rfl ?_
  refine g_iload O d_La_law_1481 rfl ?_
  refine g_iconst (v := 1) O d_La_law_1483 (by decide) ?_
  refine g_iadd O d_La_law_1484 ?_
  rw [show nI (6 * j) + 1 = nI (6 * j + 1) from nI_add (6 * j) 1]
  refine g_sld O hX hb (ix_in (show 6 * j + 1 < L by omega) (by omega)) d_La_law_1485 ?_
  refine g_callv (N := 2) (mc := 0) (ms := 0) (av := [_]) O (Or.inl ⟨_, _, cw_Cd_count⟩) pl_Cd (ci := 0) (q := q_Cd) rfl hJ.1.top.1 ml_La_144 im_Cd_count se_Cd_count rfl d_La_law_1486 rfl (Nat.le_of_ble_eq_true rfl) (Nat.le_of_ble_eq_true rfl) (by show _ ≤ 839478; omega) (by show _ ≤ 6577669; omega) ?_
  refine op_count hJ.1 ?_
  change cd_Go _ _ _ _ _ _ _ _ _ _
  first | refine g_aload_n O 2 d_La_law_1489 rfl rfl ?_ | refine g_aload_nq O 2 d_La_law_1489 rfl rfl ?_
  first | refine g_aload_n O 0 d_La_law_1490 rfl rfl ?_ | refine g_aload_nq O 0 d_La_law_1490 rfl rfl ?_
  refine g_iload O d_La_law_1491 rfl ?_
  refine g_iconst (v := 1) O d_La_law_1493 (by decide) ?_
  refine g_iadd O d_La_law_1494 ?_
  rw [show nI (6 * j) + 1 = nI (6 * j + 1) from nI_add (6 * j) 1]
  refine g_sld O hX hb (ix_in (show 6 * j + 1 < L by omega) (by omega)) d_La_law_1495 ?_
  refine g_callv (N := 3) (mc := 0) (ms := 0) (av := [_]) O (Or.inl ⟨_, _, cw_Mo_count⟩) pl_Mo (ci := 6) (q := q_Mo) rfl hJ.2.1.km ml_La_147 im_Mo_count se_Mo_count rfl d_La_law_1496 rfl (Nat.le_of_ble_eq_true rfl) (Nat.le_of_ble_eq_true rfl) (by show _ ≤ 839478; omega) (by show _ ≤ 6577669; omega) ?_
  refine om_count hJ.2.1 hJ.2.2.1 hJ.2.2.2.1 (fun w2 hM2 hF2 => ?_)
  obtain ⟨hJ2, -⟩ := LJ.mod hJ.1 hJ.2.2.2.2.1 hJ.2.2.2.2.2.1 hJ.2.2.2.2.2.2.1 hJ.2.2.2.2.2.2.2.1 hJ.2.2.2.2.2.2.2.2 hM2 hJ.2.2.1 hJ.2.2.2.1 hF2
  change cd_Go _ _ _ _ _ _ _ _ _ _
  refine g_icmp_eq  O 1504 d_La_law_1499 (by decide) (fun c1499 => ?_) (fun c1499 => ?_)
  · exact tail _ _ w2 A B σ g _ _ (by omega) (by omega) hJ2
  · exact absurd rfl c1499
