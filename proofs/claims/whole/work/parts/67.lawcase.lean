theorem lg_cmp_self (x : Int64) : lg_cmp x x = 0 := by
  unfold lg_cmp
  simp
section LX
variable {p : Program} {l : Launch} {e : Env} {s : State} {m : MethodId} {below : List Frame} {meth : Method} {c : Code} {Q : State → Prop} {D : va_G} {ad : Nat → Nat} {cA : Nat → ClassId} {ae : Nat → Nat} {cB : Nat → ClassId} {b L : Nat} {xs : Nat → Int32} {σ τ : ST} {n j : Nat}
theorem gkL_open_7 : ux_G wsL_law RL 13 RX7 yX7_open wsX7_open 1 := ⟨gL_law_X7_open, by decide +kernel⟩
theorem gkL_open_8 : ux_G wsL_law RL 17 RX8 yX8_open wsX8_open 1 := ⟨gL_law_X8_open, by decide +kernel⟩
theorem lx_open (C : lwC p s m meth c D ad cA ae cB b) (hX : va_X b L xs s s.heap) (hbl : b < s.heap.size) (hL : L ≤ 2048) (hj : j + 4 ≤ L) (hR : Rel n σ τ) (hc : n < 512) (K : ∀ σ' τ', Rel (n + 1) σ' τ' → ux_V p l e room_1 s m #[Value.ref b] below meth c Q 4 D vwCl (lwW ad cA ae cB) (fun q => s.heap.size ≤ q) 600000 7302250 (σ', τ') 636 [(0, .ref b), (1, .ref (ad 7)), (2, .ref (ae 0)), (3, .int (nI j))] []) : ux_V p l e room_1 s m #[Value.ref b] below meth c Q 4 D vwCl (lwW ad cA ae cB) (fun q => s.heap.size ≤ q) 600000 7302250 (σ, τ) 116 [(0, .ref b), (1, .ref (ad 7)), (2, .ref (ae 0)), (3, .int (nI j))] [] := by
  have hbA : ¬ s.heap.size ≤ b := Nat.not_le.mpr hbl
  have hI := hR.1
  have hB := hR.2.1
  have hF := hI.1.1
  have hcc := hI.2.1
  have hk : σ.2.1 1 < 512 := by have := hcc.2.1; omega
  have hw : σ.2.1 2 < 512 := by have := hcc.2.2.1; omega
  have hh : σ.2.1 3 < 512 := by have := hcc.2.2.2.1; omega
  have hm : σ.2.1 4 < 512 := by have := hcc.2.2.2.2; omega
  have hk1 := Nat.le_of_lt hk
  have hw1 := Nat.le_of_lt hw
  have hh1 := Nat.le_of_lt hh
  have hm1 := Nat.le_of_lt hm
  have mF : mF τ := hB.F hF
  have mB : mB τ := hR.2.2.2.2.2.2.2.1
  have mS : mS τ := hR.2.2.2.2.2.2.2.2.1
  have mk : τ.2.1 0 < 520 := by rw [hB.2.1]; omega
  have mk1 := Nat.le_of_lt mk
  have mm : τ.2.1 2 < 520 := by rw [hB.2.2.2.2.2]; omega
  have mm1 : τ.2.1 2 ≤ 512 := by rw [hB.2.2.2.2.2]; omega
  have mm2 := Nat.le_of_lt mm
  have hrel := rel_open hR hc (xs (j + 1))
  refine ux_aload_n C dL_law_116 1 rfl ?_
  refine ux_aload_n C dL_law_117 0 rfl ?_
  refine ux_iload_n C dL_law_118 3 rfl ?_
  refine ux_iconst C 1 dL_law_119 rfl ?_
  refine ux_iadd C dL_law_120 ?_
  refine ux_sld C hX hbl hbA (j + 1) (nI_add j 1) (by omega) (by omega) dL_law_121 ?_
  refine lw_callUI C gkL_open_7 (fun A => c_X7_open l D ad cA A σ (xs (j + 1)) hF) rfl ⟨rfl, rfl⟩ ⟨Nat.le_of_ble_eq_true rfl, Nat.le_of_ble_eq_true rfl⟩ rfl rfl (Nat.le_of_ble_eq_true rfl) dL_law_122 (fun r1 σ1 h1 => ?_)
  refine ux_aload_n C dL_law_125 2 rfl ?_
  refine ux_aload_n C dL_law_126 0 rfl ?_
  refine ux_iload_n C dL_law_127 3 rfl ?_
  refine ux_iconst C 1 dL_law_128 rfl ?_
  refine ux_iadd C dL_law_129 ?_
  refine ux_sld C hX hbl hbA (j + 1) (nI_add j 1) (by omega) (by omega) dL_law_130 ?_
  refine lw_callMI C gkL_open_8 (fun A => c_X8_open l D ae cB A τ (xs (j + 1)) mF) rfl ⟨rfl, rfl⟩ ⟨Nat.le_of_ble_eq_true rfl, Nat.le_of_ble_eq_true rfl⟩ rfl rfl (Nat.le_of_ble_eq_true rfl) dL_law_131 (fun r2 τ1 h2 => ?_)
  refine ux_icmp_eq C 636 dL_law_134 (by decide) (fun _ => ?_) (fun hne => absurd (by rw [h1.1, h2.1, hrel.1]) hne)
  rw [h2.2]
  exact K _ _ (hrel.2.uEq h1.2)
theorem gkL_get_7 : ux_G wsL_law RL 18 RX7 yX7_get wsX7_get 2 := ⟨gL_law_X7_get, by decide +kernel⟩
theorem gkL_get_8 : ux_G wsL_law RL 22 RX8 yX8_get wsX8_get 2 := ⟨gL_law_X8_get, by decide +kernel⟩
theorem lx_get (C : lwC p s m meth c D ad cA ae cB b) (hX : va_X b L xs s s.heap) (hbl : b < s.heap.size) (hL : L ≤ 2048) (hj : j + 4 ≤ L) (hR : Rel n σ τ) (hc : n < 512) (K : ∀ σ' τ', Rel (n + 1) σ' τ' → ux_V p l e room_1 s m #[Value.ref b] below meth c Q 4 D vwCl (lwW ad cA ae cB) (fun q => s.heap.size ≤ q) 600000 7302250 (σ', τ') 636 [(0, .ref b), (1, .ref (ad 7)), (2, .ref (ae 0)), (3, .int (nI j))] []) : ux_V p l e room_1 s m #[Value.ref b] below meth c Q 4 D vwCl (lwW ad cA ae cB) (fun q => s.heap.size ≤ q) 600000 7302250 (σ, τ) 139 [(0, .ref b), (1, .ref (ad 7)), (2, .ref (ae 0)), (3, .int (nI j))] [] := by
  have hbA : ¬ s.heap.size ≤ b := Nat.not_le.mpr hbl
  have hI := hR.1
  have hB := hR.2.1
  have hF := hI.1.1
  have hcc := hI.2.1
  have hk : σ.2.1 1 < 512 := by have := hcc.2.1; omega
  have hw : σ.2.1 2 < 512 := by have := hcc.2.2.1; omega
  have hh : σ.2.1 3 < 512 := by have := hcc.2.2.2.1; omega
  have hm : σ.2.1 4 < 512 := by have := hcc.2.2.2.2; omega
  have hk1 := Nat.le_of_lt hk
  have hw1 := Nat.le_of_lt hw
  have hh1 := Nat.le_of_lt hh
  have hm1 := Nat.le_of_lt hm
  have mF : mF τ := hB.F hF
  have mB : mB τ := hR.2.2.2.2.2.2.2.1
  have mS : mS τ := hR.2.2.2.2.2.2.2.2.1
  have mk : τ.2.1 0 < 520 := by rw [hB.2.1]; omega
  have mk1 := Nat.le_of_lt mk
  have mm : τ.2.1 2 < 520 := by rw [hB.2.2.2.2.2]; omega
  have mm1 : τ.2.1 2 ≤ 512 := by rw [hB.2.2.2.2.2]; omega
  have mm2 := Nat.le_of_lt mm
  have hrel := rel_get hR hc (xs (j + 1)) (xs (j + 2))
  refine ux_aload_n C dL_law_139 1 rfl ?_
  refine ux_aload_n C dL_law_140 0 rfl ?_
  refine ux_iload_n C dL_law_141 3 rfl ?_
  refine ux_iconst C 1 dL_law_142 rfl ?_
  refine ux_iadd C dL_law_143 ?_
  refine ux_sld C hX hbl hbA (j + 1) (nI_add j 1) (by omega) (by omega) dL_law_144 ?_
  refine ux_aload_n C dL_law_145 0 rfl ?_
  refine ux_iload_n C dL_law_146 3 rfl ?_
  refine ux_iconst C 2 dL_law_147 rfl ?_
  refine ux_iadd C dL_law_148 ?_
  refine ux_sld C hX hbl hbA (j + 2) (nI_add j 2) (by omega) (by omega) dL_law_149 ?_
  refine lw_callUL C gkL_get_7 (fun A => c_X7_get l D ad cA A σ (xs (j + 1)) (xs (j + 2)) hF hI.H hI.W hk hh) rfl ⟨rfl, rfl⟩ ⟨Nat.le_of_ble_eq_true rfl, Nat.le_of_ble_eq_true rfl⟩ rfl rfl (Nat.le_of_ble_eq_true rfl) dL_law_150 (fun r1 σ1 h1 => ?_)
  refine ux_aload_n C dL_law_153 2 rfl ?_
  refine ux_aload_n C dL_law_154 0 rfl ?_
  refine ux_iload_n C dL_law_155 3 rfl ?_
  refine ux_iconst C 1 dL_law_156 rfl ?_
  refine ux_iadd C dL_law_157 ?_
  refine ux_sld C hX hbl hbA (j + 1) (nI_add j 1) (by omega) (by omega) dL_law_158 ?_
  refine ux_aload_n C dL_law_159 0 rfl ?_
  refine ux_iload_n C dL_law_160 3 rfl ?_
  refine ux_iconst C 2 dL_law_161 rfl ?_
  refine ux_iadd C dL_law_162 ?_
  refine ux_sld C hX hbl hbA (j + 2) (nI_add j 2) (by omega) (by omega) dL_law_163 ?_
  refine lw_callML C gkL_get_8 (fun A => c_X8_get l D ae cB A τ (xs (j + 1)) (xs (j + 2)) mF mk) rfl ⟨rfl, rfl⟩ ⟨Nat.le_of_ble_eq_true rfl, Nat.le_of_ble_eq_true rfl⟩ rfl rfl (Nat.le_of_ble_eq_true rfl) dL_law_164 (fun r2 τ1 h2 => ?_)
  refine ux_lcmp C dL_law_167 ?_
  refine ux_if_eq C 636 dL_law_168 (by decide) (fun _ => ?_) (fun hne => absurd (by rw [h1.1, h2.1, hrel.1]; exact lg_cmp_self _) hne)
  rw [h2.2]
  exact K _ _ (hrel.2.uEq h1.2)
theorem gkL_put_7 : ux_G wsL_law RL 23 RX7 yX7_put wsX7_put 3 := ⟨gL_law_X7_put, by decide +kernel⟩
theorem gkL_put_8 : ux_G wsL_law RL 27 RX8 yX8_put wsX8_put 3 := ⟨gL_law_X8_put, by decide +kernel⟩
theorem lx_put (C : lwC p s m meth c D ad cA ae cB b) (hX : va_X b L xs s s.heap) (hbl : b < s.heap.size) (hL : L ≤ 2048) (hj : j + 4 ≤ L) (hR : Rel n σ τ) (hc : n < 512) (K : ∀ σ' τ', Rel (n + 1) σ' τ' → ux_V p l e room_1 s m #[Value.ref b] below meth c Q 4 D vwCl (lwW ad cA ae cB) (fun q => s.heap.size ≤ q) 600000 7302250 (σ', τ') 636 [(0, .ref b), (1, .ref (ad 7)), (2, .ref (ae 0)), (3, .int (nI j))] []) : ux_V p l e room_1 s m #[Value.ref b] below meth c Q 4 D vwCl (lwW ad cA ae cB) (fun q => s.heap.size ≤ q) 600000 7302250 (σ, τ) 173 [(0, .ref b), (1, .ref (ad 7)), (2, .ref (ae 0)), (3, .int (nI j))] [] := by
  have hbA : ¬ s.heap.size ≤ b := Nat.not_le.mpr hbl
  have hI := hR.1
  have hB := hR.2.1
  have hF := hI.1.1
  have hcc := hI.2.1
  have hk : σ.2.1 1 < 512 := by have := hcc.2.1; omega
  have hw : σ.2.1 2 < 512 := by have := hcc.2.2.1; omega
  have hh : σ.2.1 3 < 512 := by have := hcc.2.2.2.1; omega
  have hm : σ.2.1 4 < 512 := by have := hcc.2.2.2.2; omega
  have hk1 := Nat.le_of_lt hk
  have hw1 := Nat.le_of_lt hw
  have hh1 := Nat.le_of_lt hh
  have hm1 := Nat.le_of_lt hm
  have mF : mF τ := hB.F hF
  have mB : mB τ := hR.2.2.2.2.2.2.2.1
  have mS : mS τ := hR.2.2.2.2.2.2.2.2.1
  have mk : τ.2.1 0 < 520 := by rw [hB.2.1]; omega
  have mk1 := Nat.le_of_lt mk
  have mm : τ.2.1 2 < 520 := by rw [hB.2.2.2.2.2]; omega
  have mm1 : τ.2.1 2 ≤ 512 := by rw [hB.2.2.2.2.2]; omega
  have mm2 := Nat.le_of_lt mm
  have hrel := rel_change hR hc (xs (j + 1)) (xs (j + 2)) (xs (j + 3)) false (fun z => by cases z)
  refine ux_aload_n C dL_law_173 1 rfl ?_
  refine ux_aload_n C dL_law_174 0 rfl ?_
  refine ux_iload_n C dL_law_175 3 rfl ?_
  refine ux_iconst C 1 dL_law_176 rfl ?_
  refine ux_iadd C dL_law_177 ?_
  refine ux_sld C hX hbl hbA (j + 1) (nI_add j 1) (by omega) (by omega) dL_law_178 ?_
  refine ux_aload_n C dL_law_179 0 rfl ?_
  refine ux_iload_n C dL_law_180 3 rfl ?_
  refine ux_iconst C 2 dL_law_181 rfl ?_
  refine ux_iadd C dL_law_182 ?_
  refine ux_sld C hX hbl hbA (j + 2) (nI_add j 2) (by omega) (by omega) dL_law_183 ?_
  refine ux_aload_n C dL_law_184 0 rfl ?_
  refine ux_iload_n C dL_law_185 3 rfl ?_
  refine ux_iconst C 3 dL_law_186 rfl ?_
  refine ux_iadd C dL_law_187 ?_
  refine ux_sld C hX hbl hbA (j + 3) (nI_add j 3) (by omega) (by omega) dL_law_188 ?_
  refine lw_callUI C gkL_put_7 (fun A => c_X7_put l D ad cA A σ (xs (j + 1)) (xs (j + 2)) (xs (j + 3)) hF hI.H hI.W hk hh hw) rfl ⟨rfl, rfl⟩ ⟨Nat.le_of_ble_eq_true rfl, Nat.le_of_ble_eq_true rfl⟩ rfl rfl (Nat.le_of_ble_eq_true rfl) dL_law_189 (fun r1 σ1 h1 => ?_)
  refine ux_aload_n C dL_law_192 2 rfl ?_
  refine ux_aload_n C dL_law_193 0 rfl ?_
  refine ux_iload_n C dL_law_194 3 rfl ?_
  refine ux_iconst C 1 dL_law_195 rfl ?_
  refine ux_iadd C dL_law_196 ?_
  refine ux_sld C hX hbl hbA (j + 1) (nI_add j 1) (by omega) (by omega) dL_law_197 ?_
  refine ux_aload_n C dL_law_198 0 rfl ?_
  refine ux_iload_n C dL_law_199 3 rfl ?_
  refine ux_iconst C 2 dL_law_200 rfl ?_
  refine ux_iadd C dL_law_201 ?_
  refine ux_sld C hX hbl hbA (j + 2) (nI_add j 2) (by omega) (by omega) dL_law_202 ?_
  refine ux_aload_n C dL_law_203 0 rfl ?_
  refine ux_iload_n C dL_law_204 3 rfl ?_
  refine ux_iconst C 3 dL_law_205 rfl ?_
  refine ux_iadd C dL_law_206 ?_
  refine ux_sld C hX hbl hbA (j + 3) (nI_add j 3) (by omega) (by omega) dL_law_207 ?_
  refine lw_callMI C gkL_put_8 (fun A => c_X8_put l D ae cB A τ (xs (j + 1)) (xs (j + 2)) (xs (j + 3)) mF mk) rfl ⟨rfl, rfl⟩ ⟨Nat.le_of_ble_eq_true rfl, Nat.le_of_ble_eq_true rfl⟩ rfl rfl (Nat.le_of_ble_eq_true rfl) dL_law_208 (fun r2 τ1 h2 => ?_)
  refine ux_icmp_eq C 636 dL_law_211 (by decide) (fun _ => ?_) (fun hne => absurd (by rw [h1.1, h2.1, hrel.1]) hne)
  rw [h2.2]
  exact K _ _ (hrel.2.uEq h1.2)
theorem gkL_take_7 : ux_G wsL_law RL 28 RX7 yX7_take wsX7_take 2 := ⟨gL_law_X7_take, by decide +kernel⟩
theorem gkL_take_8 : ux_G wsL_law RL 32 RX8 yX8_take wsX8_take 2 := ⟨gL_law_X8_take, by decide +kernel⟩
theorem lx_take (C : lwC p s m meth c D ad cA ae cB b) (hX : va_X b L xs s s.heap) (hbl : b < s.heap.size) (hL : L ≤ 2048) (hj : j + 4 ≤ L) (hR : Rel n σ τ) (hc : n < 512) (K : ∀ σ' τ', Rel (n + 1) σ' τ' → ux_V p l e room_1 s m #[Value.ref b] below meth c Q 4 D vwCl (lwW ad cA ae cB) (fun q => s.heap.size ≤ q) 600000 7302250 (σ', τ') 636 [(0, .ref b), (1, .ref (ad 7)), (2, .ref (ae 0)), (3, .int (nI j))] []) : ux_V p l e room_1 s m #[Value.ref b] below meth c Q 4 D vwCl (lwW ad cA ae cB) (fun q => s.heap.size ≤ q) 600000 7302250 (σ, τ) 216 [(0, .ref b), (1, .ref (ad 7)), (2, .ref (ae 0)), (3, .int (nI j))] [] := by
  have hbA : ¬ s.heap.size ≤ b := Nat.not_le.mpr hbl
  have hI := hR.1
  have hB := hR.2.1
  have hF := hI.1.1
  have hcc := hI.2.1
  have hk : σ.2.1 1 < 512 := by have := hcc.2.1; omega
  have hw : σ.2.1 2 < 512 := by have := hcc.2.2.1; omega
  have hh : σ.2.1 3 < 512 := by have := hcc.2.2.2.1; omega
  have hm : σ.2.1 4 < 512 := by have := hcc.2.2.2.2; omega
  have hk1 := Nat.le_of_lt hk
  have hw1 := Nat.le_of_lt hw
  have hh1 := Nat.le_of_lt hh
  have hm1 := Nat.le_of_lt hm
  have mF : mF τ := hB.F hF
  have mB : mB τ := hR.2.2.2.2.2.2.2.1
  have mS : mS τ := hR.2.2.2.2.2.2.2.2.1
  have mk : τ.2.1 0 < 520 := by rw [hB.2.1]; omega
  have mk1 := Nat.le_of_lt mk
  have mm : τ.2.1 2 < 520 := by rw [hB.2.2.2.2.2]; omega
  have mm1 : τ.2.1 2 ≤ 512 := by rw [hB.2.2.2.2.2]; omega
  have mm2 := Nat.le_of_lt mm
  have hrel := rel_change hR hc (xs (j + 1)) (xs (j + 2)) 0 true (fun _ => rfl)
  refine ux_aload_n C dL_law_216 1 rfl ?_
  refine ux_aload_n C dL_law_217 0 rfl ?_
  refine ux_iload_n C dL_law_218 3 rfl ?_
  refine ux_iconst C 1 dL_law_219 rfl ?_
  refine ux_iadd C dL_law_220 ?_
  refine ux_sld C hX hbl hbA (j + 1) (nI_add j 1) (by omega) (by omega) dL_law_221 ?_
  refine ux_aload_n C dL_law_222 0 rfl ?_
  refine ux_iload_n C dL_law_223 3 rfl ?_
  refine ux_iconst C 2 dL_law_224 rfl ?_
  refine ux_iadd C dL_law_225 ?_
  refine ux_sld C hX hbl hbA (j + 2) (nI_add j 2) (by omega) (by omega) dL_law_226 ?_
  refine lw_callUI C gkL_take_7 (fun A => c_X7_take l D ad cA A σ (xs (j + 1)) (xs (j + 2)) hF hI.H hI.W hk hh hw) rfl ⟨rfl, rfl⟩ ⟨Nat.le_of_ble_eq_true rfl, Nat.le_of_ble_eq_true rfl⟩ rfl rfl (Nat.le_of_ble_eq_true rfl) dL_law_227 (fun r1 σ1 h1 => ?_)
  refine ux_aload_n C dL_law_230 2 rfl ?_
  refine ux_aload_n C dL_law_231 0 rfl ?_
  refine ux_iload_n C dL_law_232 3 rfl ?_
  refine ux_iconst C 1 dL_law_233 rfl ?_
  refine ux_iadd C dL_law_234 ?_
  refine ux_sld C hX hbl hbA (j + 1) (nI_add j 1) (by omega) (by omega) dL_law_235 ?_
  refine ux_aload_n C dL_law_236 0 rfl ?_
  refine ux_iload_n C dL_law_237 3 rfl ?_
  refine ux_iconst C 2 dL_law_238 rfl ?_
  refine ux_iadd C dL_law_239 ?_
  refine ux_sld C hX hbl hbA (j + 2) (nI_add j 2) (by omega) (by omega) dL_law_240 ?_
  refine lw_callMI C gkL_take_8 (fun A => c_X8_take l D ae cB A τ (xs (j + 1)) (xs (j + 2)) mF mk) rfl ⟨rfl, rfl⟩ ⟨Nat.le_of_ble_eq_true rfl, Nat.le_of_ble_eq_true rfl⟩ rfl rfl (Nat.le_of_ble_eq_true rfl) dL_law_241 (fun r2 τ1 h2 => ?_)
  refine ux_icmp_eq C 636 dL_law_244 (by decide) (fun _ => ?_) (fun hne => absurd (by rw [h1.1, h2.1, hrel.1]) hne)
  rw [h2.2]
  exact K _ _ (hrel.2.uEq h1.2)
theorem gkL_mark_7 : ux_G wsL_law RL 33 RX7 yX7_mark wsX7_mark 1 := ⟨gL_law_X7_mark, by decide +kernel⟩
theorem gkL_mark_8 : ux_G wsL_law RL 36 RX8 yX8_mark wsX8_mark 1 := ⟨gL_law_X8_mark, by decide +kernel⟩
theorem lx_mark (C : lwC p s m meth c D ad cA ae cB b) (hX : va_X b L xs s s.heap) (hbl : b < s.heap.size) (hL : L ≤ 2048) (hj : j + 4 ≤ L) (hR : Rel n σ τ) (hc : n < 512) (K : ∀ σ' τ', Rel (n + 1) σ' τ' → ux_V p l e room_1 s m #[Value.ref b] below meth c Q 4 D vwCl (lwW ad cA ae cB) (fun q => s.heap.size ≤ q) 600000 7302250 (σ', τ') 636 [(0, .ref b), (1, .ref (ad 7)), (2, .ref (ae 0)), (3, .int (nI j))] []) : ux_V p l e room_1 s m #[Value.ref b] below meth c Q 4 D vwCl (lwW ad cA ae cB) (fun q => s.heap.size ≤ q) 600000 7302250 (σ, τ) 249 [(0, .ref b), (1, .ref (ad 7)), (2, .ref (ae 0)), (3, .int (nI j))] [] := by
  have hbA : ¬ s.heap.size ≤ b := Nat.not_le.mpr hbl
  have hI := hR.1
  have hB := hR.2.1
  have hF := hI.1.1
  have hcc := hI.2.1
  have hk : σ.2.1 1 < 512 := by have := hcc.2.1; omega
  have hw : σ.2.1 2 < 512 := by have := hcc.2.2.1; omega
  have hh : σ.2.1 3 < 512 := by have := hcc.2.2.2.1; omega
  have hm : σ.2.1 4 < 512 := by have := hcc.2.2.2.2; omega
  have hk1 := Nat.le_of_lt hk
  have hw1 := Nat.le_of_lt hw
  have hh1 := Nat.le_of_lt hh
  have hm1 := Nat.le_of_lt hm
  have mF : mF τ := hB.F hF
  have mB : mB τ := hR.2.2.2.2.2.2.2.1
  have mS : mS τ := hR.2.2.2.2.2.2.2.2.1
  have mk : τ.2.1 0 < 520 := by rw [hB.2.1]; omega
  have mk1 := Nat.le_of_lt mk
  have mm : τ.2.1 2 < 520 := by rw [hB.2.2.2.2.2]; omega
  have mm1 : τ.2.1 2 ≤ 512 := by rw [hB.2.2.2.2.2]; omega
  have mm2 := Nat.le_of_lt mm
  have hrel := rel_mark hR hc (xs (j + 1))
  refine ux_aload_n C dL_law_249 1 rfl ?_
  refine ux_aload_n C dL_law_250 0 rfl ?_
  refine ux_iload_n C dL_law_251 3 rfl ?_
  refine ux_iconst C 1 dL_law_252 rfl ?_
  refine ux_iadd C dL_law_253 ?_
  refine ux_sld C hX hbl hbA (j + 1) (nI_add j 1) (by omega) (by omega) dL_law_254 ?_
  refine lw_callUI C gkL_mark_7 (fun A => c_X7_mark l D ad cA A σ (xs (j + 1)) hF hm) rfl ⟨rfl, rfl⟩ ⟨Nat.le_of_ble_eq_true rfl, Nat.le_of_ble_eq_true rfl⟩ rfl rfl (Nat.le_of_ble_eq_true rfl) dL_law_255 (fun r1 σ1 h1 => ?_)
  refine ux_aload_n C dL_law_258 2 rfl ?_
  refine ux_aload_n C dL_law_259 0 rfl ?_
  refine ux_iload_n C dL_law_260 3 rfl ?_
  refine ux_iconst C 1 dL_law_261 rfl ?_
  refine ux_iadd C dL_law_262 ?_
  refine ux_sld C hX hbl hbA (j + 1) (nI_add j 1) (by omega) (by omega) dL_law_263 ?_
  refine lw_callMI C gkL_mark_8 (fun A => c_X8_mark l D ae cB A τ (xs (j + 1)) mF mB mm) rfl ⟨rfl, rfl⟩ ⟨Nat.le_of_ble_eq_true rfl, Nat.le_of_ble_eq_true rfl⟩ rfl rfl (Nat.le_of_ble_eq_true rfl) dL_law_264 (fun r2 τ1 h2 => ?_)
  refine ux_icmp_eq C 636 dL_law_267 (by decide) (fun _ => ?_) (fun hne => absurd (by rw [h1.1, h2.1, hrel.1]) hne)
  rw [h2.2]
  exact K _ _ (hrel.2.uEq h1.2)
theorem gkL_back_7 : ux_G wsL_law RL 37 RX7 yX7_back wsX7_back 2 := ⟨gL_law_X7_back, by decide +kernel⟩
theorem gkL_back_8 : ux_G wsL_law RL 40 RX8 yX8_back wsX8_back 2 := ⟨gL_law_X8_back, by decide +kernel⟩
theorem lx_back (C : lwC p s m meth c D ad cA ae cB b) (hX : va_X b L xs s s.heap) (hbl : b < s.heap.size) (hL : L ≤ 2048) (hj : j + 4 ≤ L) (hR : Rel n σ τ) (hc : n < 512) (K : ∀ σ' τ', Rel (n + 1) σ' τ' → ux_V p l e room_1 s m #[Value.ref b] below meth c Q 4 D vwCl (lwW ad cA ae cB) (fun q => s.heap.size ≤ q) 600000 7302250 (σ', τ') 636 [(0, .ref b), (1, .ref (ad 7)), (2, .ref (ae 0)), (3, .int (nI j))] []) : ux_V p l e room_1 s m #[Value.ref b] below meth c Q 4 D vwCl (lwW ad cA ae cB) (fun q => s.heap.size ≤ q) 600000 7302250 (σ, τ) 272 [(0, .ref b), (1, .ref (ad 7)), (2, .ref (ae 0)), (3, .int (nI j))] [] := by
  have hbA : ¬ s.heap.size ≤ b := Nat.not_le.mpr hbl
  have hI := hR.1
  have hB := hR.2.1
  have hF := hI.1.1
  have hcc := hI.2.1
  have hk : σ.2.1 1 < 512 := by have := hcc.2.1; omega
  have hw : σ.2.1 2 < 512 := by have := hcc.2.2.1; omega
  have hh : σ.2.1 3 < 512 := by have := hcc.2.2.2.1; omega
  have hm : σ.2.1 4 < 512 := by have := hcc.2.2.2.2; omega
  have hk1 := Nat.le_of_lt hk
  have hw1 := Nat.le_of_lt hw
  have hh1 := Nat.le_of_lt hh
  have hm1 := Nat.le_of_lt hm
  have mF : mF τ := hB.F hF
  have mB : mB τ := hR.2.2.2.2.2.2.2.1
  have mS : mS τ := hR.2.2.2.2.2.2.2.2.1
  have mk : τ.2.1 0 < 520 := by rw [hB.2.1]; omega
  have mk1 := Nat.le_of_lt mk
  have mm : τ.2.1 2 < 520 := by rw [hB.2.2.2.2.2]; omega
  have mm1 : τ.2.1 2 ≤ 512 := by rw [hB.2.2.2.2.2]; omega
  have mm2 := Nat.le_of_lt mm
  have hrel := rel_back hR hc (xs (j + 1)) (xs (j + 2))
  refine ux_aload_n C dL_law_272 1 rfl ?_
  refine ux_aload_n C dL_law_273 0 rfl ?_
  refine ux_iload_n C dL_law_274 3 rfl ?_
  refine ux_iconst C 1 dL_law_275 rfl ?_
  refine ux_iadd C dL_law_276 ?_
  refine ux_sld C hX hbl hbA (j + 1) (nI_add j 1) (by omega) (by omega) dL_law_277 ?_
  refine ux_aload_n C dL_law_278 0 rfl ?_
  refine ux_iload_n C dL_law_279 3 rfl ?_
  refine ux_iconst C 2 dL_law_280 rfl ?_
  refine ux_iadd C dL_law_281 ?_
  refine ux_sld C hX hbl hbA (j + 2) (nI_add j 2) (by omega) (by omega) dL_law_282 ?_
  refine lw_callUI C gkL_back_7 (fun A => c_X7_back l D ad cA A σ (xs (j + 1)) (xs (j + 2)) hF hI.W hm1) rfl ⟨rfl, rfl⟩ ⟨Nat.le_of_ble_eq_true rfl, Nat.le_of_ble_eq_true rfl⟩ rfl rfl (Nat.le_of_ble_eq_true rfl) dL_law_283 (fun r1 σ1 h1 => ?_)
  refine ux_aload_n C dL_law_286 2 rfl ?_
  refine ux_aload_n C dL_law_287 0 rfl ?_
  refine ux_iload_n C dL_law_288 3 rfl ?_
  refine ux_iconst C 1 dL_law_289 rfl ?_
  refine ux_iadd C dL_law_290 ?_
  refine ux_sld C hX hbl hbA (j + 1) (nI_add j 1) (by omega) (by omega) dL_law_291 ?_
  refine ux_aload_n C dL_law_292 0 rfl ?_
  refine ux_iload_n C dL_law_293 3 rfl ?_
  refine ux_iconst C 2 dL_law_294 rfl ?_
  refine ux_iadd C dL_law_295 ?_
  refine ux_sld C hX hbl hbA (j + 2) (nI_add j 2) (by omega) (by omega) dL_law_296 ?_
  refine lw_callMI C gkL_back_8 (fun A => c_X8_back l D ae cB A τ (xs (j + 1)) (xs (j + 2)) mF mB mS mm1) rfl ⟨rfl, rfl⟩ ⟨Nat.le_of_ble_eq_true rfl, Nat.le_of_ble_eq_true rfl⟩ rfl rfl (Nat.le_of_ble_eq_true rfl) dL_law_297 (fun r2 τ1 h2 => ?_)
  refine ux_icmp_eq C 636 dL_law_300 (by decide) (fun _ => ?_) (fun hne => absurd (by rw [h1.1, h2.1, hrel.1]) hne)
  rw [h2.2]
  exact K _ _ (hrel.2.uEq h1.2)
theorem gkL_commit_7 : ux_G wsL_law RL 41 RX7 yX7_commit wsX7_commit 1 := ⟨gL_law_X7_commit, by decide +kernel⟩
theorem gkL_commit_8 : ux_G wsL_law RL 44 RX8 yX8_commit wsX8_commit 1 := ⟨gL_law_X8_commit, by decide +kernel⟩
theorem lx_commit (C : lwC p s m meth c D ad cA ae cB b) (hX : va_X b L xs s s.heap) (hbl : b < s.heap.size) (hL : L ≤ 2048) (hj : j + 4 ≤ L) (hR : Rel n σ τ) (hc : n < 512) (K : ∀ σ' τ', Rel (n + 1) σ' τ' → ux_V p l e room_1 s m #[Value.ref b] below meth c Q 4 D vwCl (lwW ad cA ae cB) (fun q => s.heap.size ≤ q) 600000 7302250 (σ', τ') 636 [(0, .ref b), (1, .ref (ad 7)), (2, .ref (ae 0)), (3, .int (nI j))] []) : ux_V p l e room_1 s m #[Value.ref b] below meth c Q 4 D vwCl (lwW ad cA ae cB) (fun q => s.heap.size ≤ q) 600000 7302250 (σ, τ) 305 [(0, .ref b), (1, .ref (ad 7)), (2, .ref (ae 0)), (3, .int (nI j))] [] := by
  have hbA : ¬ s.heap.size ≤ b := Nat.not_le.mpr hbl
  have hI := hR.1
  have hB := hR.2.1
  have hF := hI.1.1
  have hcc := hI.2.1
  have hk : σ.2.1 1 < 512 := by have := hcc.2.1; omega
  have hw : σ.2.1 2 < 512 := by have := hcc.2.2.1; omega
  have hh : σ.2.1 3 < 512 := by have := hcc.2.2.2.1; omega
  have hm : σ.2.1 4 < 512 := by have := hcc.2.2.2.2; omega
  have hk1 := Nat.le_of_lt hk
  have hw1 := Nat.le_of_lt hw
  have hh1 := Nat.le_of_lt hh
  have hm1 := Nat.le_of_lt hm
  have mF : mF τ := hB.F hF
  have mB : mB τ := hR.2.2.2.2.2.2.2.1
  have mS : mS τ := hR.2.2.2.2.2.2.2.2.1
  have mk : τ.2.1 0 < 520 := by rw [hB.2.1]; omega
  have mk1 := Nat.le_of_lt mk
  have mm : τ.2.1 2 < 520 := by rw [hB.2.2.2.2.2]; omega
  have mm1 : τ.2.1 2 ≤ 512 := by rw [hB.2.2.2.2.2]; omega
  have mm2 := Nat.le_of_lt mm
  have hrel := rel_commit hR hc (xs (j + 1))
  refine ux_aload_n C dL_law_305 1 rfl ?_
  refine ux_aload_n C dL_law_306 0 rfl ?_
  refine ux_iload_n C dL_law_307 3 rfl ?_
  refine ux_iconst C 1 dL_law_308 rfl ?_
  refine ux_iadd C dL_law_309 ?_
  refine ux_sld C hX hbl hbA (j + 1) (nI_add j 1) (by omega) (by omega) dL_law_310 ?_
  refine lw_callUI C gkL_commit_7 (fun A => c_X7_commit l D ad cA A σ (xs (j + 1)) hF hI.W hI.2.2.2.2.2.1 hh1 hm1) rfl ⟨rfl, rfl⟩ ⟨Nat.le_of_ble_eq_true rfl, Nat.le_of_ble_eq_true rfl⟩ rfl rfl (Nat.le_of_ble_eq_true rfl) dL_law_311 (fun r1 σ1 h1 => ?_)
  refine ux_aload_n C dL_law_314 2 rfl ?_
  refine ux_aload_n C dL_law_315 0 rfl ?_
  refine ux_iload_n C dL_law_316 3 rfl ?_
  refine ux_iconst C 1 dL_law_317 rfl ?_
  refine ux_iadd C dL_law_318 ?_
  refine ux_sld C hX hbl hbA (j + 1) (nI_add j 1) (by omega) (by omega) dL_law_319 ?_
  refine lw_callMI C gkL_commit_8 (fun A => c_X8_commit l D ae cB A τ (xs (j + 1)) mF mB mS mm2) rfl ⟨rfl, rfl⟩ ⟨Nat.le_of_ble_eq_true rfl, Nat.le_of_ble_eq_true rfl⟩ rfl rfl (Nat.le_of_ble_eq_true rfl) dL_law_320 (fun r2 τ1 h2 => ?_)
  refine ux_icmp_eq C 636 dL_law_323 (by decide) (fun _ => ?_) (fun hne => absurd (by rw [h1.1, h2.1, hrel.1]) hne)
  rw [h2.2]
  exact K _ _ (hrel.2.uEq h1.2)
theorem gkL_abort_7 : ux_G wsL_law RL 45 RX7 yX7_abort wsX7_abort 1 := ⟨gL_law_X7_abort, by decide +kernel⟩
theorem gkL_abort_8 : ux_G wsL_law RL 48 RX8 yX8_abort wsX8_abort 1 := ⟨gL_law_X8_abort, by decide +kernel⟩
theorem lx_abort (C : lwC p s m meth c D ad cA ae cB b) (hX : va_X b L xs s s.heap) (hbl : b < s.heap.size) (hL : L ≤ 2048) (hj : j + 4 ≤ L) (hR : Rel n σ τ) (hc : n < 512) (K : ∀ σ' τ', Rel (n + 1) σ' τ' → ux_V p l e room_1 s m #[Value.ref b] below meth c Q 4 D vwCl (lwW ad cA ae cB) (fun q => s.heap.size ≤ q) 600000 7302250 (σ', τ') 636 [(0, .ref b), (1, .ref (ad 7)), (2, .ref (ae 0)), (3, .int (nI j))] []) : ux_V p l e room_1 s m #[Value.ref b] below meth c Q 4 D vwCl (lwW ad cA ae cB) (fun q => s.heap.size ≤ q) 600000 7302250 (σ, τ) 328 [(0, .ref b), (1, .ref (ad 7)), (2, .ref (ae 0)), (3, .int (nI j))] [] := by
  have hbA : ¬ s.heap.size ≤ b := Nat.not_le.mpr hbl
  have hI := hR.1
  have hB := hR.2.1
  have hF := hI.1.1
  have hcc := hI.2.1
  have hk : σ.2.1 1 < 512 := by have := hcc.2.1; omega
  have hw : σ.2.1 2 < 512 := by have := hcc.2.2.1; omega
  have hh : σ.2.1 3 < 512 := by have := hcc.2.2.2.1; omega
  have hm : σ.2.1 4 < 512 := by have := hcc.2.2.2.2; omega
  have hk1 := Nat.le_of_lt hk
  have hw1 := Nat.le_of_lt hw
  have hh1 := Nat.le_of_lt hh
  have hm1 := Nat.le_of_lt hm
  have mF : mF τ := hB.F hF
  have mB : mB τ := hR.2.2.2.2.2.2.2.1
  have mS : mS τ := hR.2.2.2.2.2.2.2.2.1
  have mk : τ.2.1 0 < 520 := by rw [hB.2.1]; omega
  have mk1 := Nat.le_of_lt mk
  have mm : τ.2.1 2 < 520 := by rw [hB.2.2.2.2.2]; omega
  have mm1 : τ.2.1 2 ≤ 512 := by rw [hB.2.2.2.2.2]; omega
  have mm2 := Nat.le_of_lt mm
  have hrel := rel_abort hR hc (xs (j + 1))
  refine ux_aload_n C dL_law_328 1 rfl ?_
  refine ux_aload_n C dL_law_329 0 rfl ?_
  refine ux_iload_n C dL_law_330 3 rfl ?_
  refine ux_iconst C 1 dL_law_331 rfl ?_
  refine ux_iadd C dL_law_332 ?_
  refine ux_sld C hX hbl hbA (j + 1) (nI_add j 1) (by omega) (by omega) dL_law_333 ?_
  refine lw_callUI C gkL_abort_7 (fun A => c_X7_abort l D ad cA A σ (xs (j + 1)) hF hw1 hh1 hm1) rfl ⟨rfl, rfl⟩ ⟨Nat.le_of_ble_eq_true rfl, Nat.le_of_ble_eq_true rfl⟩ rfl rfl (Nat.le_of_ble_eq_true rfl) dL_law_334 (fun r1 σ1 h1 => ?_)
  refine ux_aload_n C dL_law_337 2 rfl ?_
  refine ux_aload_n C dL_law_338 0 rfl ?_
  refine ux_iload_n C dL_law_339 3 rfl ?_
  refine ux_iconst C 1 dL_law_340 rfl ?_
  refine ux_iadd C dL_law_341 ?_
  refine ux_sld C hX hbl hbA (j + 1) (nI_add j 1) (by omega) (by omega) dL_law_342 ?_
  refine lw_callMI C gkL_abort_8 (fun A => c_X8_abort l D ae cB A τ (xs (j + 1)) mF mS mm2) rfl ⟨rfl, rfl⟩ ⟨Nat.le_of_ble_eq_true rfl, Nat.le_of_ble_eq_true rfl⟩ rfl rfl (Nat.le_of_ble_eq_true rfl) dL_law_343 (fun r2 τ1 h2 => ?_)
  refine ux_icmp_eq C 636 dL_law_346 (by decide) (fun _ => ?_) (fun hne => absurd (by rw [h1.1, h2.1, hrel.1]) hne)
  rw [h2.2]
  exact K _ _ (hrel.2.uEq h1.2)
theorem gkL_state_7 : ux_G wsL_law RL 49 RX7 yX7_state wsX7_state 1 := ⟨gL_law_X7_state, by decide +kernel⟩
theorem gkL_state_8 : ux_G wsL_law RL 52 RX8 yX8_state wsX8_state 1 := ⟨gL_law_X8_state, by decide +kernel⟩
theorem lx_state (C : lwC p s m meth c D ad cA ae cB b) (hX : va_X b L xs s s.heap) (hbl : b < s.heap.size) (hL : L ≤ 2048) (hj : j + 4 ≤ L) (hR : Rel n σ τ) (hc : n < 512) (K : ∀ σ' τ', Rel (n + 1) σ' τ' → ux_V p l e room_1 s m #[Value.ref b] below meth c Q 4 D vwCl (lwW ad cA ae cB) (fun q => s.heap.size ≤ q) 600000 7302250 (σ', τ') 636 [(0, .ref b), (1, .ref (ad 7)), (2, .ref (ae 0)), (3, .int (nI j))] []) : ux_V p l e room_1 s m #[Value.ref b] below meth c Q 4 D vwCl (lwW ad cA ae cB) (fun q => s.heap.size ≤ q) 600000 7302250 (σ, τ) 351 [(0, .ref b), (1, .ref (ad 7)), (2, .ref (ae 0)), (3, .int (nI j))] [] := by
  have hbA : ¬ s.heap.size ≤ b := Nat.not_le.mpr hbl
  have hI := hR.1
  have hB := hR.2.1
  have hF := hI.1.1
  have hcc := hI.2.1
  have hk : σ.2.1 1 < 512 := by have := hcc.2.1; omega
  have hw : σ.2.1 2 < 512 := by have := hcc.2.2.1; omega
  have hh : σ.2.1 3 < 512 := by have := hcc.2.2.2.1; omega
  have hm : σ.2.1 4 < 512 := by have := hcc.2.2.2.2; omega
  have hk1 := Nat.le_of_lt hk
  have hw1 := Nat.le_of_lt hw
  have hh1 := Nat.le_of_lt hh
  have hm1 := Nat.le_of_lt hm
  have mF : mF τ := hB.F hF
  have mB : mB τ := hR.2.2.2.2.2.2.2.1
  have mS : mS τ := hR.2.2.2.2.2.2.2.2.1
  have mk : τ.2.1 0 < 520 := by rw [hB.2.1]; omega
  have mk1 := Nat.le_of_lt mk
  have mm : τ.2.1 2 < 520 := by rw [hB.2.2.2.2.2]; omega
  have mm1 : τ.2.1 2 ≤ 512 := by rw [hB.2.2.2.2.2]; omega
  have mm2 := Nat.le_of_lt mm
  have hrel := rel_state hB (xs (j + 1))
  refine ux_aload_n C dL_law_351 1 rfl ?_
  refine ux_aload_n C dL_law_352 0 rfl ?_
  refine ux_iload_n C dL_law_353 3 rfl ?_
  refine ux_iconst C 1 dL_law_354 rfl ?_
  refine ux_iadd C dL_law_355 ?_
  refine ux_sld C hX hbl hbA (j + 1) (nI_add j 1) (by omega) (by omega) dL_law_356 ?_
  refine lw_callUI C gkL_state_7 (fun A => c_X7_state l D ad cA A σ (xs (j + 1)) hF) rfl ⟨rfl, rfl⟩ ⟨Nat.le_of_ble_eq_true rfl, Nat.le_of_ble_eq_true rfl⟩ rfl rfl (Nat.le_of_ble_eq_true rfl) dL_law_357 (fun r1 σ1 h1 => ?_)
  refine ux_aload_n C dL_law_360 2 rfl ?_
  refine ux_aload_n C dL_law_361 0 rfl ?_
  refine ux_iload_n C dL_law_362 3 rfl ?_
  refine ux_iconst C 1 dL_law_363 rfl ?_
  refine ux_iadd C dL_law_364 ?_
  refine ux_sld C hX hbl hbA (j + 1) (nI_add j 1) (by omega) (by omega) dL_law_365 ?_
  refine lw_callMI C gkL_state_8 (fun A => c_X8_state l D ae cB A τ (xs (j + 1)) mF) rfl ⟨rfl, rfl⟩ ⟨Nat.le_of_ble_eq_true rfl, Nat.le_of_ble_eq_true rfl⟩ rfl rfl (Nat.le_of_ble_eq_true rfl) dL_law_366 (fun r2 τ1 h2 => ?_)
  refine ux_icmp_eq C 636 dL_law_369 (by decide) (fun _ => ?_) (fun hne => absurd (by rw [h1.1, h2.1, hrel]) hne)
  rw [← h2.2]
  exact K _ _ ((hR.uEq h1.2).up hc)
theorem gkL_told_7 : ux_G wsL_law RL 53 RX7 yX7_told wsX7_told 2 := ⟨gL_law_X7_told, by decide +kernel⟩
theorem gkL_told_8 : ux_G wsL_law RL 56 RX8 yX8_told wsX8_told 2 := ⟨gL_law_X8_told, by decide +kernel⟩
theorem lx_told (C : lwC p s m meth c D ad cA ae cB b) (hX : va_X b L xs s s.heap) (hbl : b < s.heap.size) (hL : L ≤ 2048) (hj : j + 4 ≤ L) (hR : Rel n σ τ) (hc : n < 512) (K : ∀ σ' τ', Rel (n + 1) σ' τ' → ux_V p l e room_1 s m #[Value.ref b] below meth c Q 4 D vwCl (lwW ad cA ae cB) (fun q => s.heap.size ≤ q) 600000 7302250 (σ', τ') 636 [(0, .ref b), (1, .ref (ad 7)), (2, .ref (ae 0)), (3, .int (nI j))] []) : ux_V p l e room_1 s m #[Value.ref b] below meth c Q 4 D vwCl (lwW ad cA ae cB) (fun q => s.heap.size ≤ q) 600000 7302250 (σ, τ) 374 [(0, .ref b), (1, .ref (ad 7)), (2, .ref (ae 0)), (3, .int (nI j))] [] := by
  have hbA : ¬ s.heap.size ≤ b := Nat.not_le.mpr hbl
  have hI := hR.1
  have hB := hR.2.1
  have hF := hI.1.1
  have hcc := hI.2.1
  have hk : σ.2.1 1 < 512 := by have := hcc.2.1; omega
  have hw : σ.2.1 2 < 512 := by have := hcc.2.2.1; omega
  have hh : σ.2.1 3 < 512 := by have := hcc.2.2.2.1; omega
  have hm : σ.2.1 4 < 512 := by have := hcc.2.2.2.2; omega
  have hk1 := Nat.le_of_lt hk
  have hw1 := Nat.le_of_lt hw
  have hh1 := Nat.le_of_lt hh
  have hm1 := Nat.le_of_lt hm
  have mF : mF τ := hB.F hF
  have mB : mB τ := hR.2.2.2.2.2.2.2.1
  have mS : mS τ := hR.2.2.2.2.2.2.2.2.1
  have mk : τ.2.1 0 < 520 := by rw [hB.2.1]; omega
  have mk1 := Nat.le_of_lt mk
  have mm : τ.2.1 2 < 520 := by rw [hB.2.2.2.2.2]; omega
  have mm1 : τ.2.1 2 ≤ 512 := by rw [hB.2.2.2.2.2]; omega
  have mm2 := Nat.le_of_lt mm
  have hrel := rel_told hI hB hR.2.2.1 hR.2.2.2.1 hR.2.2.2.2.1 (xs (j + 1)) (xs (j + 2))
  refine ux_aload_n C dL_law_374 1 rfl ?_
  refine ux_aload_n C dL_law_375 0 rfl ?_
  refine ux_iload_n C dL_law_376 3 rfl ?_
  refine ux_iconst C 1 dL_law_377 rfl ?_
  refine ux_iadd C dL_law_378 ?_
  refine ux_sld C hX hbl hbA (j + 1) (nI_add j 1) (by omega) (by omega) dL_law_379 ?_
  refine ux_aload_n C dL_law_380 0 rfl ?_
  refine ux_iload_n C dL_law_381 3 rfl ?_
  refine ux_iconst C 2 dL_law_382 rfl ?_
  refine ux_iadd C dL_law_383 ?_
  refine ux_sld C hX hbl hbA (j + 2) (nI_add j 2) (by omega) (by omega) dL_law_384 ?_
  refine lw_callUI C gkL_told_7 (fun A => c_X7_told l D ad cA A σ (xs (j + 1)) (xs (j + 2)) hF hI.W hh1 hm1) rfl ⟨rfl, rfl⟩ ⟨Nat.le_of_ble_eq_true rfl, Nat.le_of_ble_eq_true rfl⟩ rfl rfl (Nat.le_of_ble_eq_true rfl) dL_law_385 (fun r1 σ1 h1 => ?_)
  refine ux_aload_n C dL_law_388 2 rfl ?_
  refine ux_aload_n C dL_law_389 0 rfl ?_
  refine ux_iload_n C dL_law_390 3 rfl ?_
  refine ux_iconst C 1 dL_law_391 rfl ?_
  refine ux_iadd C dL_law_392 ?_
  refine ux_sld C hX hbl hbA (j + 1) (nI_add j 1) (by omega) (by omega) dL_law_393 ?_
  refine ux_aload_n C dL_law_394 0 rfl ?_
  refine ux_iload_n C dL_law_395 3 rfl ?_
  refine ux_iconst C 2 dL_law_396 rfl ?_
  refine ux_iadd C dL_law_397 ?_
  refine ux_sld C hX hbl hbA (j + 2) (nI_add j 2) (by omega) (by omega) dL_law_398 ?_
  refine lw_callMI C gkL_told_8 (fun A => c_X8_told l D ae cB A τ (xs (j + 1)) (xs (j + 2)) mF mm2) rfl ⟨rfl, rfl⟩ ⟨Nat.le_of_ble_eq_true rfl, Nat.le_of_ble_eq_true rfl⟩ rfl rfl (Nat.le_of_ble_eq_true rfl) dL_law_399 (fun r2 τ1 h2 => ?_)
  refine ux_icmp_eq C 636 dL_law_402 (by decide) (fun _ => ?_) (fun hne => absurd (by rw [h1.1, h2.1, hrel]) hne)
  rw [← h2.2]
  exact K _ _ ((hR.uEq h1.2).up hc)
theorem gkL_held_7 : ux_G wsL_law RL 57 RX7 yX7_held wsX7_held 2 := ⟨gL_law_X7_held, by decide +kernel⟩
theorem gkL_held_8 : ux_G wsL_law RL 60 RX8 yX8_held wsX8_held 2 := ⟨gL_law_X8_held, by decide +kernel⟩
theorem lx_held (C : lwC p s m meth c D ad cA ae cB b) (hX : va_X b L xs s s.heap) (hbl : b < s.heap.size) (hL : L ≤ 2048) (hj : j + 4 ≤ L) (hR : Rel n σ τ) (hc : n < 512) (K : ∀ σ' τ', Rel (n + 1) σ' τ' → ux_V p l e room_1 s m #[Value.ref b] below meth c Q 4 D vwCl (lwW ad cA ae cB) (fun q => s.heap.size ≤ q) 600000 7302250 (σ', τ') 636 [(0, .ref b), (1, .ref (ad 7)), (2, .ref (ae 0)), (3, .int (nI j))] []) : ux_V p l e room_1 s m #[Value.ref b] below meth c Q 4 D vwCl (lwW ad cA ae cB) (fun q => s.heap.size ≤ q) 600000 7302250 (σ, τ) 407 [(0, .ref b), (1, .ref (ad 7)), (2, .ref (ae 0)), (3, .int (nI j))] [] := by
  have hbA : ¬ s.heap.size ≤ b := Nat.not_le.mpr hbl
  have hI := hR.1
  have hB := hR.2.1
  have hF := hI.1.1
  have hcc := hI.2.1
  have hk : σ.2.1 1 < 512 := by have := hcc.2.1; omega
  have hw : σ.2.1 2 < 512 := by have := hcc.2.2.1; omega
  have hh : σ.2.1 3 < 512 := by have := hcc.2.2.2.1; omega
  have hm : σ.2.1 4 < 512 := by have := hcc.2.2.2.2; omega
  have hk1 := Nat.le_of_lt hk
  have hw1 := Nat.le_of_lt hw
  have hh1 := Nat.le_of_lt hh
  have hm1 := Nat.le_of_lt hm
  have mF : mF τ := hB.F hF
  have mB : mB τ := hR.2.2.2.2.2.2.2.1
  have mS : mS τ := hR.2.2.2.2.2.2.2.2.1
  have mk : τ.2.1 0 < 520 := by rw [hB.2.1]; omega
  have mk1 := Nat.le_of_lt mk
  have mm : τ.2.1 2 < 520 := by rw [hB.2.2.2.2.2]; omega
  have mm1 : τ.2.1 2 ≤ 512 := by rw [hB.2.2.2.2.2]; omega
  have mm2 := Nat.le_of_lt mm
  have hrel := rel_held hI hB hR.2.2.2.1 (xs (j + 1)) (xs (j + 2))
  refine ux_aload_n C dL_law_407 1 rfl ?_
  refine ux_aload_n C dL_law_408 0 rfl ?_
  refine ux_iload_n C dL_law_409 3 rfl ?_
  refine ux_iconst C 1 dL_law_410 rfl ?_
  refine ux_iadd C dL_law_411 ?_
  refine ux_sld C hX hbl hbA (j + 1) (nI_add j 1) (by omega) (by omega) dL_law_412 ?_
  refine ux_aload_n C dL_law_413 0 rfl ?_
  refine ux_iload_n C dL_law_414 3 rfl ?_
  refine ux_iconst C 2 dL_law_415 rfl ?_
  refine ux_iadd C dL_law_416 ?_
  refine ux_sld C hX hbl hbA (j + 2) (nI_add j 2) (by omega) (by omega) dL_law_417 ?_
  refine lw_callUI C gkL_held_7 (fun A => c_X7_held l D ad cA A σ (xs (j + 1)) (xs (j + 2)) hF hk1 hh1) rfl ⟨rfl, rfl⟩ ⟨Nat.le_of_ble_eq_true rfl, Nat.le_of_ble_eq_true rfl⟩ rfl rfl (Nat.le_of_ble_eq_true rfl) dL_law_418 (fun r1 σ1 h1 => ?_)
  refine ux_aload_n C dL_law_421 2 rfl ?_
  refine ux_aload_n C dL_law_422 0 rfl ?_
  refine ux_iload_n C dL_law_423 3 rfl ?_
  refine ux_iconst C 1 dL_law_424 rfl ?_
  refine ux_iadd C dL_law_425 ?_
  refine ux_sld C hX hbl hbA (j + 1) (nI_add j 1) (by omega) (by omega) dL_law_426 ?_
  refine ux_aload_n C dL_law_427 0 rfl ?_
  refine ux_iload_n C dL_law_428 3 rfl ?_
  refine ux_iconst C 2 dL_law_429 rfl ?_
  refine ux_iadd C dL_law_430 ?_
  refine ux_sld C hX hbl hbA (j + 2) (nI_add j 2) (by omega) (by omega) dL_law_431 ?_
  refine lw_callMI C gkL_held_8 (fun A => c_X8_held l D ae cB A τ (xs (j + 1)) (xs (j + 2)) mF mk1) rfl ⟨rfl, rfl⟩ ⟨Nat.le_of_ble_eq_true rfl, Nat.le_of_ble_eq_true rfl⟩ rfl rfl (Nat.le_of_ble_eq_true rfl) dL_law_432 (fun r2 τ1 h2 => ?_)
  refine ux_icmp_eq C 636 dL_law_435 (by decide) (fun _ => ?_) (fun hne => absurd (by rw [h1.1, h2.1, hrel]) hne)
  rw [← h2.2]
  exact K _ _ ((hR.uEq h1.2).up hc)
theorem gkL_blocker_7 : ux_G wsL_law RL 61 RX7 yX7_blocker wsX7_blocker 3 := ⟨gL_law_X7_blocker, by decide +kernel⟩
theorem gkL_blocker_8 : ux_G wsL_law RL 65 RX8 yX8_blocker wsX8_blocker 3 := ⟨gL_law_X8_blocker, by decide +kernel⟩
theorem lx_blocker (C : lwC p s m meth c D ad cA ae cB b) (hX : va_X b L xs s s.heap) (hbl : b < s.heap.size) (hL : L ≤ 2048) (hj : j + 4 ≤ L) (hR : Rel n σ τ) (hc : n < 512) (K : ∀ σ' τ', Rel (n + 1) σ' τ' → ux_V p l e room_1 s m #[Value.ref b] below meth c Q 4 D vwCl (lwW ad cA ae cB) (fun q => s.heap.size ≤ q) 600000 7302250 (σ', τ') 636 [(0, .ref b), (1, .ref (ad 7)), (2, .ref (ae 0)), (3, .int (nI j))] []) : ux_V p l e room_1 s m #[Value.ref b] below meth c Q 4 D vwCl (lwW ad cA ae cB) (fun q => s.heap.size ≤ q) 600000 7302250 (σ, τ) 440 [(0, .ref b), (1, .ref (ad 7)), (2, .ref (ae 0)), (3, .int (nI j))] [] := by
  have hbA : ¬ s.heap.size ≤ b := Nat.not_le.mpr hbl
  have hI := hR.1
  have hB := hR.2.1
  have hF := hI.1.1
  have hcc := hI.2.1
  have hk : σ.2.1 1 < 512 := by have := hcc.2.1; omega
  have hw : σ.2.1 2 < 512 := by have := hcc.2.2.1; omega
  have hh : σ.2.1 3 < 512 := by have := hcc.2.2.2.1; omega
  have hm : σ.2.1 4 < 512 := by have := hcc.2.2.2.2; omega
  have hk1 := Nat.le_of_lt hk
  have hw1 := Nat.le_of_lt hw
  have hh1 := Nat.le_of_lt hh
  have hm1 := Nat.le_of_lt hm
  have mF : mF τ := hB.F hF
  have mB : mB τ := hR.2.2.2.2.2.2.2.1
  have mS : mS τ := hR.2.2.2.2.2.2.2.2.1
  have mk : τ.2.1 0 < 520 := by rw [hB.2.1]; omega
  have mk1 := Nat.le_of_lt mk
  have mm : τ.2.1 2 < 520 := by rw [hB.2.2.2.2.2]; omega
  have mm1 : τ.2.1 2 ≤ 512 := by rw [hB.2.2.2.2.2]; omega
  have mm2 := Nat.le_of_lt mm
  obtain ⟨y, hy⟩ : ∃ y : Bool, y = !decide (xs (j + 3) = 0) := ⟨_, rfl⟩
  have hrel := rel_blocker hI hB hR.2.2.2.1 (xs (j + 1)) (xs (j + 2)) y
  refine ux_aload_n C dL_law_440 1 rfl ?_
  refine ux_aload_n C dL_law_441 0 rfl ?_
  refine ux_iload_n C dL_law_442 3 rfl ?_
  refine ux_iconst C 1 dL_law_443 rfl ?_
  refine ux_iadd C dL_law_444 ?_
  refine ux_sld C hX hbl hbA (j + 1) (nI_add j 1) (by omega) (by omega) dL_law_445 ?_
  refine ux_aload_n C dL_law_446 0 rfl ?_
  refine ux_iload_n C dL_law_447 3 rfl ?_
  refine ux_iconst C 2 dL_law_448 rfl ?_
  refine ux_iadd C dL_law_449 ?_
  refine ux_sld C hX hbl hbA (j + 2) (nI_add j 2) (by omega) (by omega) dL_law_450 ?_
  refine ux_aload_n C dL_law_451 0 rfl ?_
  refine ux_iload_n C dL_law_452 3 rfl ?_
  refine ux_iconst C 3 dL_law_453 rfl ?_
  refine ux_iadd C dL_law_454 ?_
  refine ux_sld C hX hbl hbA (j + 3) (nI_add j 3) (by omega) (by omega) dL_law_455 ?_
  suffices hS464 : ux_V p l e room_1 s m #[Value.ref b] below meth c Q 4 D vwCl (lwW ad cA ae cB) (fun q => s.heap.size ≤ q) 600000 7302250 (σ, τ) 464 [(0, .ref b), (1, .ref (ad 7)), (2, .ref (ae 0)), (3, .int (nI j))] (.int (pq_b y) :: .int (xs (j + 2)) :: .int (xs (j + 1)) :: .ref (ad 7) :: []) by
    refine ux_if_eq C 463 dL_law_456 (by decide) (fun hz => ?_) (fun hz => ?_)
    · refine ux_iconst C 0 dL_law_463 rfl ?_
      rw [show y = false by rw [hy, hz]; rfl] at hS464
      exact hS464
    · refine ux_iconst C 1 dL_law_459 rfl ?_
      refine ux_goto C 464 dL_law_460 (by decide) ?_
      rw [show y = true by rw [hy, decide_eq_false hz]; rfl] at hS464
      exact hS464
  refine lw_callUI C gkL_blocker_7 (fun A => c_X7_blocker l D ad cA A σ (xs (j + 1)) (xs (j + 2)) y hF hI.H hk1) rfl ⟨rfl, rfl⟩ ⟨Nat.le_of_ble_eq_true rfl, Nat.le_of_ble_eq_true rfl⟩ rfl rfl (Nat.le_of_ble_eq_true rfl) dL_law_464 (fun r1 σ1 h1 => ?_)
  refine ux_aload_n C dL_law_467 2 rfl ?_
  refine ux_aload_n C dL_law_468 0 rfl ?_
  refine ux_iload_n C dL_law_469 3 rfl ?_
  refine ux_iconst C 1 dL_law_470 rfl ?_
  refine ux_iadd C dL_law_471 ?_
  refine ux_sld C hX hbl hbA (j + 1) (nI_add j 1) (by omega) (by omega) dL_law_472 ?_
  refine ux_aload_n C dL_law_473 0 rfl ?_
  refine ux_iload_n C dL_law_474 3 rfl ?_
  refine ux_iconst C 2 dL_law_475 rfl ?_
  refine ux_iadd C dL_law_476 ?_
  refine ux_sld C hX hbl hbA (j + 2) (nI_add j 2) (by omega) (by omega) dL_law_477 ?_
  refine ux_aload_n C dL_law_478 0 rfl ?_
  refine ux_iload_n C dL_law_479 3 rfl ?_
  refine ux_iconst C 3 dL_law_480 rfl ?_
  refine ux_iadd C dL_law_481 ?_
  refine ux_sld C hX hbl hbA (j + 3) (nI_add j 3) (by omega) (by omega) dL_law_482 ?_
  suffices hS491 : ux_V p l e room_1 s m #[Value.ref b] below meth c Q 4 D vwCl (lwW ad cA ae cB) (fun q => s.heap.size ≤ q) 600000 7302250 (σ1, τ) 491 [(0, .ref b), (1, .ref (ad 7)), (2, .ref (ae 0)), (3, .int (nI j))] (.int (pq_b y) :: .int (xs (j + 2)) :: .int (xs (j + 1)) :: .ref (ae 0) :: [.int r1]) by
    refine ux_if_eq C 490 dL_law_483 (by decide) (fun hz => ?_) (fun hz => ?_)
    · refine ux_iconst C 0 dL_law_490 rfl ?_
      rw [show y = false by rw [hy, hz]; rfl] at hS491
      exact hS491
    · refine ux_iconst C 1 dL_law_486 rfl ?_
      refine ux_goto C 491 dL_law_487 (by decide) ?_
      rw [show y = true by rw [hy, decide_eq_false hz]; rfl] at hS491
      exact hS491
  refine lw_callMI C gkL_blocker_8 (fun A => c_X8_blocker l D ae cB A τ (xs (j + 1)) (xs (j + 2)) y mF mk1) rfl ⟨rfl, rfl⟩ ⟨Nat.le_of_ble_eq_true rfl, Nat.le_of_ble_eq_true rfl⟩ rfl rfl (Nat.le_of_ble_eq_true rfl) dL_law_491 (fun r2 τ1 h2 => ?_)
  refine ux_icmp_eq C 636 dL_law_494 (by decide) (fun _ => ?_) (fun hne => absurd (by rw [h1.1, h2.1, hrel]) hne)
  rw [← h2.2]
  exact K _ _ ((hR.uEq h1.2).up hc)
theorem gkL_waits_7 : ux_G wsL_law RL 66 RX7 yX7_waits wsX7_waits 1 := ⟨gL_law_X7_waits, by decide +kernel⟩
theorem gkL_waits_8 : ux_G wsL_law RL 69 RX8 yX8_waits wsX8_waits 1 := ⟨gL_law_X8_waits, by decide +kernel⟩
theorem lx_waits (C : lwC p s m meth c D ad cA ae cB b) (hX : va_X b L xs s s.heap) (hbl : b < s.heap.size) (hL : L ≤ 2048) (hj : j + 4 ≤ L) (hR : Rel n σ τ) (hc : n < 512) (K : ∀ σ' τ', Rel (n + 1) σ' τ' → ux_V p l e room_1 s m #[Value.ref b] below meth c Q 4 D vwCl (lwW ad cA ae cB) (fun q => s.heap.size ≤ q) 600000 7302250 (σ', τ') 636 [(0, .ref b), (1, .ref (ad 7)), (2, .ref (ae 0)), (3, .int (nI j))] []) : ux_V p l e room_1 s m #[Value.ref b] below meth c Q 4 D vwCl (lwW ad cA ae cB) (fun q => s.heap.size ≤ q) 600000 7302250 (σ, τ) 499 [(0, .ref b), (1, .ref (ad 7)), (2, .ref (ae 0)), (3, .int (nI j))] [] := by
  have hbA : ¬ s.heap.size ≤ b := Nat.not_le.mpr hbl
  have hI := hR.1
  have hB := hR.2.1
  have hF := hI.1.1
  have hcc := hI.2.1
  have hk : σ.2.1 1 < 512 := by have := hcc.2.1; omega
  have hw : σ.2.1 2 < 512 := by have := hcc.2.2.1; omega
  have hh : σ.2.1 3 < 512 := by have := hcc.2.2.2.1; omega
  have hm : σ.2.1 4 < 512 := by have := hcc.2.2.2.2; omega
  have hk1 := Nat.le_of_lt hk
  have hw1 := Nat.le_of_lt hw
  have hh1 := Nat.le_of_lt hh
  have hm1 := Nat.le_of_lt hm
  have mF : mF τ := hB.F hF
  have mB : mB τ := hR.2.2.2.2.2.2.2.1
  have mS : mS τ := hR.2.2.2.2.2.2.2.2.1
  have mk : τ.2.1 0 < 520 := by rw [hB.2.1]; omega
  have mk1 := Nat.le_of_lt mk
  have mm : τ.2.1 2 < 520 := by rw [hB.2.2.2.2.2]; omega
  have mm1 : τ.2.1 2 ≤ 512 := by rw [hB.2.2.2.2.2]; omega
  have mm2 := Nat.le_of_lt mm
  have hrel := rel_waits hI hB hR.2.2.2.1 hR.2.2.2.2.2.2.1 (xs (j + 1))
  refine ux_aload_n C dL_law_499 1 rfl ?_
  refine ux_aload_n C dL_law_500 0 rfl ?_
  refine ux_iload_n C dL_law_501 3 rfl ?_
  refine ux_iconst C 1 dL_law_502 rfl ?_
  refine ux_iadd C dL_law_503 ?_
  refine ux_sld C hX hbl hbA (j + 1) (nI_add j 1) (by omega) (by omega) dL_law_504 ?_
  refine lw_callUI C gkL_waits_7 (fun A => c_X7_waits l D ad cA A σ (xs (j + 1)) hF hI.H) rfl ⟨rfl, rfl⟩ ⟨Nat.le_of_ble_eq_true rfl, Nat.le_of_ble_eq_true rfl⟩ rfl rfl (Nat.le_of_ble_eq_true rfl) dL_law_505 (fun r1 σ1 h1 => ?_)
  refine ux_aload_n C dL_law_508 2 rfl ?_
  refine ux_aload_n C dL_law_509 0 rfl ?_
  refine ux_iload_n C dL_law_510 3 rfl ?_
  refine ux_iconst C 1 dL_law_511 rfl ?_
  refine ux_iadd C dL_law_512 ?_
  refine ux_sld C hX hbl hbA (j + 1) (nI_add j 1) (by omega) (by omega) dL_law_513 ?_
  refine lw_callMI C gkL_waits_8 (fun A => c_X8_waits l D ae cB A τ (xs (j + 1)) mF hR.mW) rfl ⟨rfl, rfl⟩ ⟨Nat.le_of_ble_eq_true rfl, Nat.le_of_ble_eq_true rfl⟩ rfl rfl (Nat.le_of_ble_eq_true rfl) dL_law_514 (fun r2 τ1 h2 => ?_)
  refine ux_icmp_eq C 636 dL_law_517 (by decide) (fun _ => ?_) (fun hne => absurd (by rw [h1.1, h2.1, hrel]) hne)
  rw [← h2.2]
  exact K _ _ ((hR.uEq h1.2).up hc)
theorem gkL_ring_7 : ux_G wsL_law RL 70 RX7 yX7_ring wsX7_ring 0 := ⟨gL_law_X7_ring, by decide +kernel⟩
theorem gkL_ring_8 : ux_G wsL_law RL 74 RX8 yX8_ring wsX8_ring 0 := ⟨gL_law_X8_ring, by decide +kernel⟩
theorem lx_ring (C : lwC p s m meth c D ad cA ae cB b) (hX : va_X b L xs s s.heap) (hbl : b < s.heap.size) (hL : L ≤ 2048) (hj : j + 4 ≤ L) (hR : Rel n σ τ) (hc : n < 512) (K : ∀ σ' τ', Rel (n + 1) σ' τ' → ux_V p l e room_1 s m #[Value.ref b] below meth c Q 4 D vwCl (lwW ad cA ae cB) (fun q => s.heap.size ≤ q) 600000 7302250 (σ', τ') 636 [(0, .ref b), (1, .ref (ad 7)), (2, .ref (ae 0)), (3, .int (nI j))] []) : ux_V p l e room_1 s m #[Value.ref b] below meth c Q 4 D vwCl (lwW ad cA ae cB) (fun q => s.heap.size ≤ q) 600000 7302250 (σ, τ) 522 [(0, .ref b), (1, .ref (ad 7)), (2, .ref (ae 0)), (3, .int (nI j))] [] := by
  have hbA : ¬ s.heap.size ≤ b := Nat.not_le.mpr hbl
  have hI := hR.1
  have hB := hR.2.1
  have hF := hI.1.1
  have hcc := hI.2.1
  have hk : σ.2.1 1 < 512 := by have := hcc.2.1; omega
  have hw : σ.2.1 2 < 512 := by have := hcc.2.2.1; omega
  have hh : σ.2.1 3 < 512 := by have := hcc.2.2.2.1; omega
  have hm : σ.2.1 4 < 512 := by have := hcc.2.2.2.2; omega
  have hk1 := Nat.le_of_lt hk
  have hw1 := Nat.le_of_lt hw
  have hh1 := Nat.le_of_lt hh
  have hm1 := Nat.le_of_lt hm
  have mF : mF τ := hB.F hF
  have mB : mB τ := hR.2.2.2.2.2.2.2.1
  have mS : mS τ := hR.2.2.2.2.2.2.2.2.1
  have mk : τ.2.1 0 < 520 := by rw [hB.2.1]; omega
  have mk1 := Nat.le_of_lt mk
  have mm : τ.2.1 2 < 520 := by rw [hB.2.2.2.2.2]; omega
  have mm1 : τ.2.1 2 ≤ 512 := by rw [hB.2.2.2.2.2]; omega
  have mm2 := Nat.le_of_lt mm
  have hrel := rel_ring hI hB hR.2.2.2.1 hR.2.2.2.2.2.2.1
  refine ux_aload_n C dL_law_522 1 rfl ?_
  refine lw_callUI C gkL_ring_7 (fun A => c_X7_ring l D ad cA A σ  hF hI.H) rfl ⟨rfl, rfl⟩ ⟨Nat.le_of_ble_eq_true rfl, Nat.le_of_ble_eq_true rfl⟩ rfl rfl (Nat.le_of_ble_eq_true rfl) dL_law_523 (fun r1 σ1 h1 => ?_)
  refine ux_aload_n C dL_law_526 2 rfl ?_
  refine lw_callMI C gkL_ring_8 (fun A => c_X8_ring l D ae cB A τ  mF hR.mW) rfl ⟨rfl, rfl⟩ ⟨Nat.le_of_ble_eq_true rfl, Nat.le_of_ble_eq_true rfl⟩ rfl rfl (Nat.le_of_ble_eq_true rfl) dL_law_527 (fun r2 τ1 h2 => ?_)
  refine ux_icmp_eq C 636 dL_law_530 (by decide) (fun _ => ?_) (fun hne => absurd (by rw [h1.1, h2.1, hrel]) hne)
  obtain ⟨f, hf⟩ := h2.2
  rw [hf]
  exact K _ _ (((hR.uEq h1.2).re f).up hc)
theorem gkL_size_7 : ux_G wsL_law RL 75 RX7 yX7_size wsX7_size 1 := ⟨gL_law_X7_size, by decide +kernel⟩
theorem gkL_size_8 : ux_G wsL_law RL 78 RX8 yX8_size wsX8_size 1 := ⟨gL_law_X8_size, by decide +kernel⟩
theorem lx_size (C : lwC p s m meth c D ad cA ae cB b) (hX : va_X b L xs s s.heap) (hbl : b < s.heap.size) (hL : L ≤ 2048) (hj : j + 4 ≤ L) (hR : Rel n σ τ) (hc : n < 512) (K : ∀ σ' τ', Rel (n + 1) σ' τ' → ux_V p l e room_1 s m #[Value.ref b] below meth c Q 4 D vwCl (lwW ad cA ae cB) (fun q => s.heap.size ≤ q) 600000 7302250 (σ', τ') 636 [(0, .ref b), (1, .ref (ad 7)), (2, .ref (ae 0)), (3, .int (nI j))] []) : ux_V p l e room_1 s m #[Value.ref b] below meth c Q 4 D vwCl (lwW ad cA ae cB) (fun q => s.heap.size ≤ q) 600000 7302250 (σ, τ) 535 [(0, .ref b), (1, .ref (ad 7)), (2, .ref (ae 0)), (3, .int (nI j))] [] := by
  have hbA : ¬ s.heap.size ≤ b := Nat.not_le.mpr hbl
  have hI := hR.1
  have hB := hR.2.1
  have hF := hI.1.1
  have hcc := hI.2.1
  have hk : σ.2.1 1 < 512 := by have := hcc.2.1; omega
  have hw : σ.2.1 2 < 512 := by have := hcc.2.2.1; omega
  have hh : σ.2.1 3 < 512 := by have := hcc.2.2.2.1; omega
  have hm : σ.2.1 4 < 512 := by have := hcc.2.2.2.2; omega
  have hk1 := Nat.le_of_lt hk
  have hw1 := Nat.le_of_lt hw
  have hh1 := Nat.le_of_lt hh
  have hm1 := Nat.le_of_lt hm
  have mF : mF τ := hB.F hF
  have mB : mB τ := hR.2.2.2.2.2.2.2.1
  have mS : mS τ := hR.2.2.2.2.2.2.2.2.1
  have mk : τ.2.1 0 < 520 := by rw [hB.2.1]; omega
  have mk1 := Nat.le_of_lt mk
  have mm : τ.2.1 2 < 520 := by rw [hB.2.2.2.2.2]; omega
  have mm1 : τ.2.1 2 ≤ 512 := by rw [hB.2.2.2.2.2]; omega
  have mm2 := Nat.le_of_lt mm
  have hrel := rel_size hI hB hR.2.2.1 (xs (j + 1))
  refine ux_aload_n C dL_law_535 1 rfl ?_
  refine ux_aload_n C dL_law_536 0 rfl ?_
  refine ux_iload_n C dL_law_537 3 rfl ?_
  refine ux_iconst C 1 dL_law_538 rfl ?_
  refine ux_iadd C dL_law_539 ?_
  refine ux_sld C hX hbl hbA (j + 1) (nI_add j 1) (by omega) (by omega) dL_law_540 ?_
  refine lw_callUI C gkL_size_7 (fun A => c_X7_size l D ad cA A σ (xs (j + 1)) hF hI.W hk1) rfl ⟨rfl, rfl⟩ ⟨Nat.le_of_ble_eq_true rfl, Nat.le_of_ble_eq_true rfl⟩ rfl rfl (Nat.le_of_ble_eq_true rfl) dL_law_541 (fun r1 σ1 h1 => ?_)
  refine ux_aload_n C dL_law_544 2 rfl ?_
  refine ux_aload_n C dL_law_545 0 rfl ?_
  refine ux_iload_n C dL_law_546 3 rfl ?_
  refine ux_iconst C 1 dL_law_547 rfl ?_
  refine ux_iadd C dL_law_548 ?_
  refine ux_sld C hX hbl hbA (j + 1) (nI_add j 1) (by omega) (by omega) dL_law_549 ?_
  refine lw_callMI C gkL_size_8 (fun A => c_X8_size l D ae cB A τ (xs (j + 1)) mF mk1) rfl ⟨rfl, rfl⟩ ⟨Nat.le_of_ble_eq_true rfl, Nat.le_of_ble_eq_true rfl⟩ rfl rfl (Nat.le_of_ble_eq_true rfl) dL_law_550 (fun r2 τ1 h2 => ?_)
  refine ux_icmp_eq C 636 dL_law_553 (by decide) (fun _ => ?_) (fun hne => absurd (by rw [h1.1, h2.1, hrel]) hne)
  rw [← h2.2]
  exact K _ _ ((hR.uEq h1.2).up hc)
theorem gkL_next_7 : ux_G wsL_law RL 79 RX7 yX7_next wsX7_next 2 := ⟨gL_law_X7_next, by decide +kernel⟩
theorem gkL_next_8 : ux_G wsL_law RL 82 RX8 yX8_next wsX8_next 2 := ⟨gL_law_X8_next, by decide +kernel⟩
theorem lx_next (C : lwC p s m meth c D ad cA ae cB b) (hX : va_X b L xs s s.heap) (hbl : b < s.heap.size) (hL : L ≤ 2048) (hj : j + 4 ≤ L) (hR : Rel n σ τ) (hc : n < 512) (K : ∀ σ' τ', Rel (n + 1) σ' τ' → ux_V p l e room_1 s m #[Value.ref b] below meth c Q 4 D vwCl (lwW ad cA ae cB) (fun q => s.heap.size ≤ q) 600000 7302250 (σ', τ') 636 [(0, .ref b), (1, .ref (ad 7)), (2, .ref (ae 0)), (3, .int (nI j))] []) : ux_V p l e room_1 s m #[Value.ref b] below meth c Q 4 D vwCl (lwW ad cA ae cB) (fun q => s.heap.size ≤ q) 600000 7302250 (σ, τ) 558 [(0, .ref b), (1, .ref (ad 7)), (2, .ref (ae 0)), (3, .int (nI j))] [] := by
  have hbA : ¬ s.heap.size ≤ b := Nat.not_le.mpr hbl
  have hI := hR.1
  have hB := hR.2.1
  have hF := hI.1.1
  have hcc := hI.2.1
  have hk : σ.2.1 1 < 512 := by have := hcc.2.1; omega
  have hw : σ.2.1 2 < 512 := by have := hcc.2.2.1; omega
  have hh : σ.2.1 3 < 512 := by have := hcc.2.2.2.1; omega
  have hm : σ.2.1 4 < 512 := by have := hcc.2.2.2.2; omega
  have hk1 := Nat.le_of_lt hk
  have hw1 := Nat.le_of_lt hw
  have hh1 := Nat.le_of_lt hh
  have hm1 := Nat.le_of_lt hm
  have mF : mF τ := hB.F hF
  have mB : mB τ := hR.2.2.2.2.2.2.2.1
  have mS : mS τ := hR.2.2.2.2.2.2.2.2.1
  have mk : τ.2.1 0 < 520 := by rw [hB.2.1]; omega
  have mk1 := Nat.le_of_lt mk
  have mm : τ.2.1 2 < 520 := by rw [hB.2.2.2.2.2]; omega
  have mm1 : τ.2.1 2 ≤ 512 := by rw [hB.2.2.2.2.2]; omega
  have mm2 := Nat.le_of_lt mm
  have hrel := rel_next hI hB hR.2.2.1 (xs (j + 1)) (xs (j + 2))
  refine ux_aload_n C dL_law_558 1 rfl ?_
  refine ux_aload_n C dL_law_559 0 rfl ?_
  refine ux_iload_n C dL_law_560 3 rfl ?_
  refine ux_iconst C 1 dL_law_561 rfl ?_
  refine ux_iadd C dL_law_562 ?_
  refine ux_sld C hX hbl hbA (j + 1) (nI_add j 1) (by omega) (by omega) dL_law_563 ?_
  refine ux_aload_n C dL_law_564 0 rfl ?_
  refine ux_iload_n C dL_law_565 3 rfl ?_
  refine ux_iconst C 2 dL_law_566 rfl ?_
  refine ux_iadd C dL_law_567 ?_
  refine ux_sld C hX hbl hbA (j + 2) (nI_add j 2) (by omega) (by omega) dL_law_568 ?_
  refine lw_callUL C gkL_next_7 (fun A => c_X7_next l D ad cA A σ (xs (j + 1)) (xs (j + 2)) hF hI.W hk1) rfl ⟨rfl, rfl⟩ ⟨Nat.le_of_ble_eq_true rfl, Nat.le_of_ble_eq_true rfl⟩ rfl rfl (Nat.le_of_ble_eq_true rfl) dL_law_569 (fun r1 σ1 h1 => ?_)
  refine ux_aload_n C dL_law_572 2 rfl ?_
  refine ux_aload_n C dL_law_573 0 rfl ?_
  refine ux_iload_n C dL_law_574 3 rfl ?_
  refine ux_iconst C 1 dL_law_575 rfl ?_
  refine ux_iadd C dL_law_576 ?_
  refine ux_sld C hX hbl hbA (j + 1) (nI_add j 1) (by omega) (by omega) dL_law_577 ?_
  refine ux_aload_n C dL_law_578 0 rfl ?_
  refine ux_iload_n C dL_law_579 3 rfl ?_
  refine ux_iconst C 2 dL_law_580 rfl ?_
  refine ux_iadd C dL_law_581 ?_
  refine ux_sld C hX hbl hbA (j + 2) (nI_add j 2) (by omega) (by omega) dL_law_582 ?_
  refine lw_callML C gkL_next_8 (fun A => c_X8_next l D ae cB A τ (xs (j + 1)) (xs (j + 2)) mF mk1) rfl ⟨rfl, rfl⟩ ⟨Nat.le_of_ble_eq_true rfl, Nat.le_of_ble_eq_true rfl⟩ rfl rfl (Nat.le_of_ble_eq_true rfl) dL_law_583 (fun r2 τ1 h2 => ?_)
  refine ux_lcmp C dL_law_586 ?_
  refine ux_if_eq C 636 dL_law_587 (by decide) (fun _ => ?_) (fun hne => absurd (by rw [h1.1, h2.1, hrel]; exact lg_cmp_self _) hne)
  rw [← h2.2]
  exact K _ _ ((hR.uEq h1.2).up hc)
theorem gkL_sum_7 : ux_G wsL_law RL 83 RX7 yX7_sum wsX7_sum 3 := ⟨gL_law_X7_sum, by decide +kernel⟩
theorem gkL_sum_8 : ux_G wsL_law RL 87 RX8 yX8_sum wsX8_sum 3 := ⟨gL_law_X8_sum, by decide +kernel⟩
theorem lx_sum (C : lwC p s m meth c D ad cA ae cB b) (hX : va_X b L xs s s.heap) (hbl : b < s.heap.size) (hL : L ≤ 2048) (hj : j + 4 ≤ L) (hR : Rel n σ τ) (hc : n < 512) (K : ∀ σ' τ', Rel (n + 1) σ' τ' → ux_V p l e room_1 s m #[Value.ref b] below meth c Q 4 D vwCl (lwW ad cA ae cB) (fun q => s.heap.size ≤ q) 600000 7302250 (σ', τ') 636 [(0, .ref b), (1, .ref (ad 7)), (2, .ref (ae 0)), (3, .int (nI j))] []) : ux_V p l e room_1 s m #[Value.ref b] below meth c Q 4 D vwCl (lwW ad cA ae cB) (fun q => s.heap.size ≤ q) 600000 7302250 (σ, τ) 592 [(0, .ref b), (1, .ref (ad 7)), (2, .ref (ae 0)), (3, .int (nI j))] [] := by
  have hbA : ¬ s.heap.size ≤ b := Nat.not_le.mpr hbl
  have hI := hR.1
  have hB := hR.2.1
  have hF := hI.1.1
  have hcc := hI.2.1
  have hk : σ.2.1 1 < 512 := by have := hcc.2.1; omega
  have hw : σ.2.1 2 < 512 := by have := hcc.2.2.1; omega
  have hh : σ.2.1 3 < 512 := by have := hcc.2.2.2.1; omega
  have hm : σ.2.1 4 < 512 := by have := hcc.2.2.2.2; omega
  have hk1 := Nat.le_of_lt hk
  have hw1 := Nat.le_of_lt hw
  have hh1 := Nat.le_of_lt hh
  have hm1 := Nat.le_of_lt hm
  have mF : mF τ := hB.F hF
  have mB : mB τ := hR.2.2.2.2.2.2.2.1
  have mS : mS τ := hR.2.2.2.2.2.2.2.2.1
  have mk : τ.2.1 0 < 520 := by rw [hB.2.1]; omega
  have mk1 := Nat.le_of_lt mk
  have mm : τ.2.1 2 < 520 := by rw [hB.2.2.2.2.2]; omega
  have mm1 : τ.2.1 2 ≤ 512 := by rw [hB.2.2.2.2.2]; omega
  have mm2 := Nat.le_of_lt mm
  have hrel := rel_sum hI hB hR.2.2.1 (xs (j + 1)) (xs (j + 2)) (xs (j + 3))
  refine ux_aload_n C dL_law_592 1 rfl ?_
  refine ux_aload_n C dL_law_593 0 rfl ?_
  refine ux_iload_n C dL_law_594 3 rfl ?_
  refine ux_iconst C 1 dL_law_595 rfl ?_
  refine ux_iadd C dL_law_596 ?_
  refine ux_sld C hX hbl hbA (j + 1) (nI_add j 1) (by omega) (by omega) dL_law_597 ?_
  refine ux_aload_n C dL_law_598 0 rfl ?_
  refine ux_iload_n C dL_law_599 3 rfl ?_
  refine ux_iconst C 2 dL_law_600 rfl ?_
  refine ux_iadd C dL_law_601 ?_
  refine ux_sld C hX hbl hbA (j + 2) (nI_add j 2) (by omega) (by omega) dL_law_602 ?_
  refine ux_aload_n C dL_law_603 0 rfl ?_
  refine ux_iload_n C dL_law_604 3 rfl ?_
  refine ux_iconst C 3 dL_law_605 rfl ?_
  refine ux_iadd C dL_law_606 ?_
  refine ux_sld C hX hbl hbA (j + 3) (nI_add j 3) (by omega) (by omega) dL_law_607 ?_
  refine lw_callUL C gkL_sum_7 (fun A => c_X7_sum l D ad cA A σ (xs (j + 1)) (xs (j + 2)) (xs (j + 3)) hF hI.W hk1) rfl ⟨rfl, rfl⟩ ⟨Nat.le_of_ble_eq_true rfl, Nat.le_of_ble_eq_true rfl⟩ rfl rfl (Nat.le_of_ble_eq_true rfl) dL_law_608 (fun r1 σ1 h1 => ?_)
  refine ux_aload_n C dL_law_611 2 rfl ?_
  refine ux_aload_n C dL_law_612 0 rfl ?_
  refine ux_iload_n C dL_law_613 3 rfl ?_
  refine ux_iconst C 1 dL_law_614 rfl ?_
  refine ux_iadd C dL_law_615 ?_
  refine ux_sld C hX hbl hbA (j + 1) (nI_add j 1) (by omega) (by omega) dL_law_616 ?_
  refine ux_aload_n C dL_law_617 0 rfl ?_
  refine ux_iload_n C dL_law_618 3 rfl ?_
  refine ux_iconst C 2 dL_law_619 rfl ?_
  refine ux_iadd C dL_law_620 ?_
  refine ux_sld C hX hbl hbA (j + 2) (nI_add j 2) (by omega) (by omega) dL_law_621 ?_
  refine ux_aload_n C dL_law_622 0 rfl ?_
  refine ux_iload_n C dL_law_623 3 rfl ?_
  refine ux_iconst C 3 dL_law_624 rfl ?_
  refine ux_iadd C dL_law_625 ?_
  refine ux_sld C hX hbl hbA (j + 3) (nI_add j 3) (by omega) (by omega) dL_law_626 ?_
  refine lw_callML C gkL_sum_8 (fun A => c_X8_sum l D ae cB A τ (xs (j + 1)) (xs (j + 2)) (xs (j + 3)) mF mk1) rfl ⟨rfl, rfl⟩ ⟨Nat.le_of_ble_eq_true rfl, Nat.le_of_ble_eq_true rfl⟩ rfl rfl (Nat.le_of_ble_eq_true rfl) dL_law_627 (fun r2 τ1 h2 => ?_)
  refine ux_lcmp C dL_law_630 ?_
  refine ux_if_eq C 636 dL_law_631 (by decide) (fun _ => ?_) (fun hne => absurd (by rw [h1.1, h2.1, hrel]; exact lg_cmp_self _) hne)
  rw [← h2.2]
  exact K _ _ ((hR.uEq h1.2).up hc)
end LX
