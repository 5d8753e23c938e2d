/-- class and reference, called alike in the world w, answer alike, and I holds again -/
def zOpI (A B : zM) (as : List Value) (I : zW → Prop) (w : zW) : Prop := ∃ (r : Int32) (w1 w2 : zW) (fs fs' : List Value), Sp A (.ref 0 :: as) w (some (.int r)) w1 ∧ Sp B (.ref 25 :: as) w1 (some (.int r)) w2 ∧ I w2 ∧ w1.length = w.length ∧ w2.length = w1.length ∧ w[0]? = some (.inr (4, fs)) ∧ w1[25]? = some (.inr (5, fs'))
def zOpL (A B : zM) (as : List Value) (I : zW → Prop) (w : zW) : Prop := ∃ (r : Int64) (w1 w2 : zW) (fs fs' : List Value), Sp A (.ref 0 :: as) w (some (.long r)) w1 ∧ Sp B (.ref 25 :: as) w1 (some (.long r)) w2 ∧ I w2 ∧ w1.length = w.length ∧ w2.length = w1.length ∧ w[0]? = some (.inr (4, fs)) ∧ w1[25]? = some (.inr (5, fs'))
def zStep (I : zW → Prop) : Prop :=
  (∀ w, I w → ∀ (a : Int32) (b : Int32) (c : Int32) (d : Int32) (e : Bool), zOpI M_A_cross M_M_cross [.int a, .int b, .int c, .int d, .int (zb e)] I w) ∧
  (∀ w, I w → zOpI M_A_drop M_M_drop [] I w) ∧
  (∀ w, I w → ∀ (a : Int32), zOpI M_A_take M_M_take [.int a] I w) ∧
  (∀ w, I w → ∀ (a : Int32), zOpI M_A_letter M_M_letter [.int a] I w) ∧
  (∀ w, I w → ∀ (a : Int32), zOpI M_A_braid M_M_braid [.int a] I w) ∧
  (∀ w, I w → ∀ (a : Int32), zOpI M_A_count M_M_count [.int a] I w) ∧
  (∀ w, I w → ∀ (a : Int32) (b : Int32), zOpI M_A_end M_M_end [.int a, .int b] I w) ∧
  (∀ w, I w → ∀ (a : Int32), zOpL M_A_first M_M_first [.int a] I w) ∧
  (∀ w, I w → ∀ (a : Int32), zOpL M_A_second M_M_second [.int a] I w) ∧
  (∀ w, I w → ∀ (a : Int32) (b : Int32), zOpI M_A_twist M_M_twist [.int a, .int b] I w) ∧
  (∀ w, I w → ∀ (a : Int32), zOpI M_A_untwist M_M_untwist [.int a] I w) ∧
  (∀ w, I w → ∀ (a : Int32) (b : Bool) (c : Int32) (d : Bool), zOpI M_A_poke M_M_poke [.int a, .int (zb b), .int c, .int (zb d)] I w) ∧
  (∀ w, I w → ∀ (a : Int32) (b : Int32), zOpI M_A_unpoke M_M_unpoke [.int a, .int b] I w) ∧
  (∀ w, I w → ∀ (a : Int32) (b : Int32) (c : Int32), zOpI M_A_slide M_M_slide [.int a, .int b, .int c] I w)
abbrev lvL (i : Nat) : List (Nat × Value) := [(0, .ref 1000000), (1, .ref 0), (2, .ref 25), (3, .int (nI i))]
def LE (L : Nat) (xs : Nat → Int32) (pc i : Nat) (w : zW) : Prop := ∃ wf, Ev M_L_law (some (L, xs)) (some (.int 1)) wf pc (lvL i) [] w 38 6813
theorem s_in {i L : Nat} (c : Int32) (k : Nat) (hc : c = nI k) (h : i + k < L) (hL : L ≤ 3072) : vp_in (nI i + c) L := by
  subst hc
  rw [nI_add]
  exact vp_in_nI h (by omega)
section LAW
variable {L : Nat} {xs : Nat → Int32} {I : zW → Prop} {i : Nat} {w : zW}
theorem lo_cross (S : zStep I) (hL : L ≤ 3072) (hi : i + 6 ≤ L) (hw : I w) (k : ∀ w2, I w2 → LE L xs 586 i w2) : LE L xs 104 i w := by
  by_cases e4 : (xs (nI i + 5).toNatClampNeg) = 0
  · skip
    obtain ⟨r, w1, w2, fs, fs', s1, s2, h2, l1, l2, h0, h25⟩ := S.1 w hw (xs (nI i + 1).toNatClampNeg) (xs (nI i + 2).toNatClampNeg) (xs (nI i + 3).toNatClampNeg) (xs (nI i + 4).toNatClampNeg) false
    obtain ⟨wf, kk⟩ := k w2 h2
    refine ⟨wf, ?_⟩
    refine ev_aload_n 1 d_L_law_104 rfl rfl ?_
    refine ev_aload_n 0 d_L_law_105 rfl rfl ?_
    refine ev_iload_n 3 d_L_law_106 rfl rfl ?_
    refine ev_iconst (v := 1) d_L_law_107 (by decide) ?_
    refine ev_iadd d_L_law_108 ?_
    refine ev_sld d_L_law_109 (s_in _ 1 rfl (by omega) hL) ?_
    refine ev_aload_n 0 d_L_law_110 rfl rfl ?_
    refine ev_iload_n 3 d_L_law_111 rfl rfl ?_
    refine ev_iconst (v := 2) d_L_law_112 (by decide) ?_
    refine ev_iadd d_L_law_113 ?_
    refine ev_sld d_L_law_114 (s_in _ 2 rfl (by omega) hL) ?_
    refine ev_aload_n 0 d_L_law_115 rfl rfl ?_
    refine ev_iload_n 3 d_L_law_116 rfl rfl ?_
    refine ev_iconst (v := 3) d_L_law_117 (by decide) ?_
    refine ev_iadd d_L_law_118 ?_
    refine ev_sld d_L_law_119 (s_in _ 3 rfl (by omega) hL) ?_
    refine ev_aload_n 0 d_L_law_120 rfl rfl ?_
    refine ev_iload_n 3 d_L_law_121 rfl rfl ?_
    refine ev_iconst (v := 4) d_L_law_122 (by decide) ?_
    refine ev_iadd d_L_law_123 ?_
    refine ev_sld d_L_law_124 (s_in _ 4 rfl (by omega) hL) ?_
    refine ev_aload_n 0 d_L_law_125 rfl rfl ?_
    refine ev_iload_n 3 d_L_law_126 rfl rfl ?_
    refine ev_iconst (v := 5) d_L_law_127 (by decide) ?_
    refine ev_iadd d_L_law_128 ?_
    refine ev_sld d_L_law_129 (s_in _ 5 rfl (by omega) hL) ?_
    refine ev_if_eq 137 d_L_law_130 (by decide) (fun q => ?_) (fun q => ?_)
    rotate_left
    · exact absurd e4 q
    refine ev_iconst (v := 0) d_L_law_137 (by decide) ?_
    refine ev_callV M_A_cross [_, _, _, _, _] s1 c_L_13 d_L_law_138 h0 rfl (by decide) (Nat.le_of_ble_eq_true rfl) ⟨rfl, rfl⟩ l1 ?_
    refine ev_aload_n 2 d_L_law_141 rfl rfl ?_
    refine ev_aload_n 0 d_L_law_142 rfl rfl ?_
    refine ev_iload_n 3 d_L_law_143 rfl rfl ?_
    refine ev_iconst (v := 1) d_L_law_144 (by decide) ?_
    refine ev_iadd d_L_law_145 ?_
    refine ev_sld d_L_law_146 (s_in _ 1 rfl (by omega) hL) ?_
    refine ev_aload_n 0 d_L_law_147 rfl rfl ?_
    refine ev_iload_n 3 d_L_law_148 rfl rfl ?_
    refine ev_iconst (v := 2) d_L_law_149 (by decide) ?_
    refine ev_iadd d_L_law_150 ?_
    refine ev_sld d_L_law_151 (s_in _ 2 rfl (by omega) hL) ?_
    refine ev_aload_n 0 d_L_law_152 rfl rfl ?_
    refine ev_iload_n 3 d_L_law_153 rfl rfl ?_
    refine ev_iconst (v := 3) d_L_law_154 (by decide) ?_
    refine ev_iadd d_L_law_155 ?_
    refine ev_sld d_L_law_156 (s_in _ 3 rfl (by omega) hL) ?_
    refine ev_aload_n 0 d_L_law_157 rfl rfl ?_
    refine ev_iload_n 3 d_L_law_158 rfl rfl ?_
    refine ev_iconst (v := 4) d_L_law_159 (by decide) ?_
    refine ev_iadd d_L_law_160 ?_
    refine ev_sld d_L_law_161 (s_in _ 4 rfl (by omega) hL) ?_
    refine ev_aload_n 0 d_L_law_162 rfl rfl ?_
    refine ev_iload_n 3 d_L_law_163 rfl rfl ?_
    refine ev_iconst (v := 5) d_L_law_164 (by decide) ?_
    refine ev_iadd d_L_law_165 ?_
    refine ev_sld d_L_law_166 (s_in _ 5 rfl (by omega) hL) ?_
    refine ev_if_eq 174 d_L_law_167 (by decide) (fun q => ?_) (fun q => ?_)
    rotate_left
    · exact absurd e4 q
    refine ev_iconst (v := 0) d_L_law_174 (by decide) ?_
    refine ev_callV M_M_cross [_, _, _, _, _] s2 c_L_17 d_L_law_175 h25 rfl (by decide) (Nat.le_of_ble_eq_true rfl) ⟨rfl, rfl⟩ l2 ?_
    refine ev_icmp_eq 586 d_L_law_178 (by decide) (fun q => ?_) (fun q => ?_)
    · exact kk
    · exact absurd rfl q
  · skip
    obtain ⟨r, w1, w2, fs, fs', s1, s2, h2, l1, l2, h0, h25⟩ := S.1 w hw (xs (nI i + 1).toNatClampNeg) (xs (nI i + 2).toNatClampNeg) (xs (nI i + 3).toNatClampNeg) (xs (nI i + 4).toNatClampNeg) true
    obtain ⟨wf, kk⟩ := k w2 h2
    refine ⟨wf, ?_⟩
    refine ev_aload_n 1 d_L_law_104 rfl rfl ?_
    refine ev_aload_n 0 d_L_law_105 rfl rfl ?_
    refine ev_iload_n 3 d_L_law_106 rfl rfl ?_
    refine ev_iconst (v := 1) d_L_law_107 (by decide) ?_
    refine ev_iadd d_L_law_108 ?_
    refine ev_sld d_L_law_109 (s_in _ 1 rfl (by omega) hL) ?_
    refine ev_aload_n 0 d_L_law_110 rfl rfl ?_
    refine ev_iload_n 3 d_L_law_111 rfl rfl ?_
    refine ev_iconst (v := 2) d_L_law_112 (by decide) ?_
    refine ev_iadd d_L_law_113 ?_
    refine ev_sld d_L_law_114 (s_in _ 2 rfl (by omega) hL) ?_
    refine ev_aload_n 0 d_L_law_115 rfl rfl ?_
    refine ev_iload_n 3 d_L_law_116 rfl rfl ?_
    refine ev_iconst (v := 3) d_L_law_117 (by decide) ?_
    refine ev_iadd d_L_law_118 ?_
    refine ev_sld d_L_law_119 (s_in _ 3 rfl (by omega) hL) ?_
    refine ev_aload_n 0 d_L_law_120 rfl rfl ?_
    refine ev_iload_n 3 d_L_law_121 rfl rfl ?_
    refine ev_iconst (v := 4) d_L_law_122 (by decide) ?_
    refine ev_iadd d_L_law_123 ?_
    refine ev_sld d_L_law_124 (s_in _ 4 rfl (by omega) hL) ?_
    refine ev_aload_n 0 d_L_law_125 rfl rfl ?_
    refine ev_iload_n 3 d_L_law_126 rfl rfl ?_
    refine ev_iconst (v := 5) d_L_law_127 (by decide) ?_
    refine ev_iadd d_L_law_128 ?_
    refine ev_sld d_L_law_129 (s_in _ 5 rfl (by omega) hL) ?_
    refine ev_if_eq 137 d_L_law_130 (by decide) (fun q => ?_) (fun q => ?_)
    · exact absurd q e4
    · refine ev_iconst (v := 1) d_L_law_133 (by decide) ?_
      refine ev_goto 138 d_L_law_134 (by decide) ?_
      refine ev_callV M_A_cross [_, _, _, _, _] s1 c_L_13 d_L_law_138 h0 rfl (by decide) (Nat.le_of_ble_eq_true rfl) ⟨rfl, rfl⟩ l1 ?_
      refine ev_aload_n 2 d_L_law_141 rfl rfl ?_
      refine ev_aload_n 0 d_L_law_142 rfl rfl ?_
      refine ev_iload_n 3 d_L_law_143 rfl rfl ?_
      refine ev_iconst (v := 1) d_L_law_144 (by decide) ?_
      refine ev_iadd d_L_law_145 ?_
      refine ev_sld d_L_law_146 (s_in _ 1 rfl (by omega) hL) ?_
      refine ev_aload_n 0 d_L_law_147 rfl rfl ?_
      refine ev_iload_n 3 d_L_law_148 rfl rfl ?_
      refine ev_iconst (v := 2) d_L_law_149 (by decide) ?_
      refine ev_iadd d_L_law_150 ?_
      refine ev_sld d_L_law_151 (s_in _ 2 rfl (by omega) hL) ?_
      refine ev_aload_n 0 d_L_law_152 rfl rfl ?_
      refine ev_iload_n 3 d_L_law_153 rfl rfl ?_
      refine ev_iconst (v := 3) d_L_law_154 (by decide) ?_
      refine ev_iadd d_L_law_155 ?_
      refine ev_sld d_L_law_156 (s_in _ 3 rfl (by omega) hL) ?_
      refine ev_aload_n 0 d_L_law_157 rfl rfl ?_
      refine ev_iload_n 3 d_L_law_158 rfl rfl ?_
      refine ev_iconst (v := 4) d_L_law_159 (by decide) ?_
      refine ev_iadd d_L_law_160 ?_
      refine ev_sld d_L_law_161 (s_in _ 4 rfl (by omega) hL) ?_
      refine ev_aload_n 0 d_L_law_162 rfl rfl ?_
      refine ev_iload_n 3 d_L_law_163 rfl rfl ?_
      refine ev_iconst (v := 5) d_L_law_164 (by decide) ?_
      refine ev_iadd d_L_law_165 ?_
      refine ev_sld d_L_law_166 (s_in _ 5 rfl (by omega) hL) ?_
      refine ev_if_eq 174 d_L_law_167 (by decide) (fun q => ?_) (fun q => ?_)
      · exact absurd q e4
      · refine ev_iconst (v := 1) d_L_law_170 (by decide) ?_
        refine ev_goto 175 d_L_law_171 (by decide) ?_
        refine ev_callV M_M_cross [_, _, _, _, _] s2 c_L_17 d_L_law_175 h25 rfl (by decide) (Nat.le_of_ble_eq_true rfl) ⟨rfl, rfl⟩ l2 ?_
        refine ev_icmp_eq 586 d_L_law_178 (by decide) (fun q => ?_) (fun q => ?_)
        · exact kk
        · exact absurd rfl q
theorem lo_drop (S : zStep I) (hL : L ≤ 3072) (hi : i + 6 ≤ L) (hw : I w) (k : ∀ w2, I w2 → LE L xs 586 i w2) : LE L xs 183 i w := by
  obtain ⟨r, w1, w2, fs, fs', s1, s2, h2, l1, l2, h0, h25⟩ := S.2.1 w hw
  obtain ⟨wf, kk⟩ := k w2 h2
  refine ⟨wf, ?_⟩
  refine ev_aload_n 1 d_L_law_183 rfl rfl ?_
  refine ev_callV M_A_drop [] s1 c_L_18 d_L_law_184 h0 rfl (by decide) (Nat.le_of_ble_eq_true rfl) ⟨rfl, rfl⟩ l1 ?_
  refine ev_aload_n 2 d_L_law_187 rfl rfl ?_
  refine ev_callV M_M_drop [] s2 c_L_22 d_L_law_188 h25 rfl (by decide) (Nat.le_of_ble_eq_true rfl) ⟨rfl, rfl⟩ l2 ?_
  refine ev_icmp_eq 586 d_L_law_191 (by decide) (fun q => ?_) (fun q => ?_)
  · exact kk
  · exact absurd rfl q
theorem lo_take (S : zStep I) (hL : L ≤ 3072) (hi : i + 6 ≤ L) (hw : I w) (k : ∀ w2, I w2 → LE L xs 586 i w2) : LE L xs 196 i w := by
  obtain ⟨r, w1, w2, fs, fs', s1, s2, h2, l1, l2, h0, h25⟩ := S.2.2.1 w hw (xs (nI i + 1).toNatClampNeg)
  obtain ⟨wf, kk⟩ := k w2 h2
  refine ⟨wf, ?_⟩
  refine ev_aload_n 1 d_L_law_196 rfl rfl ?_
  refine ev_aload_n 0 d_L_law_197 rfl rfl ?_
  refine ev_iload_n 3 d_L_law_198 rfl rfl ?_
  refine ev_iconst (v := 1) d_L_law_199 (by decide) ?_
  refine ev_iadd d_L_law_200 ?_
  refine ev_sld d_L_law_201 (s_in _ 1 rfl (by omega) hL) ?_
  refine ev_callV M_A_take [_] s1 c_L_23 d_L_law_202 h0 rfl (by decide) (Nat.le_of_ble_eq_true rfl) ⟨rfl, rfl⟩ l1 ?_
  refine ev_aload_n 2 d_L_law_205 rfl rfl ?_
  refine ev_aload_n 0 d_L_law_206 rfl rfl ?_
  refine ev_iload_n 3 d_L_law_207 rfl rfl ?_
  refine ev_iconst (v := 1) d_L_law_208 (by decide) ?_
  refine ev_iadd d_L_law_209 ?_
  refine ev_sld d_L_law_210 (s_in _ 1 rfl (by omega) hL) ?_
  refine ev_callV M_M_take [_] s2 c_L_27 d_L_law_211 h25 rfl (by decide) (Nat.le_of_ble_eq_true rfl) ⟨rfl, rfl⟩ l2 ?_
  refine ev_icmp_eq 586 d_L_law_214 (by decide) (fun q => ?_) (fun q => ?_)
  · exact kk
  · exact absurd rfl q
theorem lo_letter (S : zStep I) (hL : L ≤ 3072) (hi : i + 6 ≤ L) (hw : I w) (k : ∀ w2, I w2 → LE L xs 586 i w2) : LE L xs 219 i w := by
  obtain ⟨r, w1, w2, fs, fs', s1, s2, h2, l1, l2, h0, h25⟩ := S.2.2.2.1 w hw (xs (nI i + 1).toNatClampNeg)
  obtain ⟨wf, kk⟩ := k w2 h2
  refine ⟨wf, ?_⟩
  refine ev_aload_n 1 d_L_law_219 rfl rfl ?_
  refine ev_aload_n 0 d_L_law_220 rfl rfl ?_
  refine ev_iload_n 3 d_L_law_221 rfl rfl ?_
  refine ev_iconst (v := 1) d_L_law_222 (by decide) ?_
  refine ev_iadd d_L_law_223 ?_
  refine ev_sld d_L_law_224 (s_in _ 1 rfl (by omega) hL) ?_
  refine ev_callV M_A_letter [_] s1 c_L_28 d_L_law_225 h0 rfl (by decide) (Nat.le_of_ble_eq_true rfl) ⟨rfl, rfl⟩ l1 ?_
  refine ev_aload_n 2 d_L_law_228 rfl rfl ?_
  refine ev_aload_n 0 d_L_law_229 rfl rfl ?_
  refine ev_iload_n 3 d_L_law_230 rfl rfl ?_
  refine ev_iconst (v := 1) d_L_law_231 (by decide) ?_
  refine ev_iadd d_L_law_232 ?_
  refine ev_sld d_L_law_233 (s_in _ 1 rfl (by omega) hL) ?_
  refine ev_callV M_M_letter [_] s2 c_L_32 d_L_law_234 h25 rfl (by decide) (Nat.le_of_ble_eq_true rfl) ⟨rfl, rfl⟩ l2 ?_
  refine ev_icmp_eq 586 d_L_law_237 (by decide) (fun q => ?_) (fun q => ?_)
  · exact kk
  · exact absurd rfl q
theorem lo_braid (S : zStep I) (hL : L ≤ 3072) (hi : i + 6 ≤ L) (hw : I w) (k : ∀ w2, I w2 → LE L xs 586 i w2) : LE L xs 242 i w := by
  obtain ⟨r, w1, w2, fs, fs', s1, s2, h2, l1, l2, h0, h25⟩ := S.2.2.2.2.1 w hw (xs (nI i + 1).toNatClampNeg)
  obtain ⟨wf, kk⟩ := k w2 h2
  refine ⟨wf, ?_⟩
  refine ev_aload_n 1 d_L_law_242 rfl rfl ?_
  refine ev_aload_n 0 d_L_law_243 rfl rfl ?_
  refine ev_iload_n 3 d_L_law_244 rfl rfl ?_
  refine ev_iconst (v := 1) d_L_law_245 (by decide) ?_
  refine ev_iadd d_L_law_246 ?_
  refine ev_sld d_L_law_247 (s_in _ 1 rfl (by omega) hL) ?_
  refine ev_callV M_A_braid [_] s1 c_L_33 d_L_law_248 h0 rfl (by decide) (Nat.le_of_ble_eq_true rfl) ⟨rfl, rfl⟩ l1 ?_
  refine ev_aload_n 2 d_L_law_251 rfl rfl ?_
  refine ev_aload_n 0 d_L_law_252 rfl rfl ?_
  refine ev_iload_n 3 d_L_law_253 rfl rfl ?_
  refine ev_iconst (v := 1) d_L_law_254 (by decide) ?_
  refine ev_iadd d_L_law_255 ?_
  refine ev_sld d_L_law_256 (s_in _ 1 rfl (by omega) hL) ?_
  refine ev_callV M_M_braid [_] s2 c_L_36 d_L_law_257 h25 rfl (by decide) (Nat.le_of_ble_eq_true rfl) ⟨rfl, rfl⟩ l2 ?_
  refine ev_icmp_eq 586 d_L_law_260 (by decide) (fun q => ?_) (fun q => ?_)
  · exact kk
  · exact absurd rfl q
theorem lo_count (S : zStep I) (hL : L ≤ 3072) (hi : i + 6 ≤ L) (hw : I w) (k : ∀ w2, I w2 → LE L xs 586 i w2) : LE L xs 265 i w := by
  obtain ⟨r, w1, w2, fs, fs', s1, s2, h2, l1, l2, h0, h25⟩ := S.2.2.2.2.2.1 w hw (xs (nI i + 1).toNatClampNeg)
  obtain ⟨wf, kk⟩ := k w2 h2
  refine ⟨wf, ?_⟩
  refine ev_aload_n 1 d_L_law_265 rfl rfl ?_
  refine ev_aload_n 0 d_L_law_266 rfl rfl ?_
  refine ev_iload_n 3 d_L_law_267 rfl rfl ?_
  refine ev_iconst (v := 1) d_L_law_268 (by decide) ?_
  refine ev_iadd d_L_law_269 ?_
  refine ev_sld d_L_law_270 (s_in _ 1 rfl (by omega) hL) ?_
  refine ev_callV M_A_count [_] s1 c_L_37 d_L_law_271 h0 rfl (by decide) (Nat.le_of_ble_eq_true rfl) ⟨rfl, rfl⟩ l1 ?_
  refine ev_aload_n 2 d_L_law_274 rfl rfl ?_
  refine ev_aload_n 0 d_L_law_275 rfl rfl ?_
  refine ev_iload_n 3 d_L_law_276 rfl rfl ?_
  refine ev_iconst (v := 1) d_L_law_277 (by decide) ?_
  refine ev_iadd d_L_law_278 ?_
  refine ev_sld d_L_law_279 (s_in _ 1 rfl (by omega) hL) ?_
  refine ev_callV M_M_count [_] s2 c_L_40 d_L_law_280 h25 rfl (by decide) (Nat.le_of_ble_eq_true rfl) ⟨rfl, rfl⟩ l2 ?_
  refine ev_icmp_eq 586 d_L_law_283 (by decide) (fun q => ?_) (fun q => ?_)
  · exact kk
  · exact absurd rfl q
theorem lo_end (S : zStep I) (hL : L ≤ 3072) (hi : i + 6 ≤ L) (hw : I w) (k : ∀ w2, I w2 → LE L xs 586 i w2) : LE L xs 288 i w := by
  obtain ⟨r, w1, w2, fs, fs', s1, s2, h2, l1, l2, h0, h25⟩ := S.2.2.2.2.2.2.1 w hw (xs (nI i + 1).toNatClampNeg) (xs (nI i + 2).toNatClampNeg)
  obtain ⟨wf, kk⟩ := k w2 h2
  refine ⟨wf, ?_⟩
  refine ev_aload_n 1 d_L_law_288 rfl rfl ?_
  refine ev_aload_n 0 d_L_law_289 rfl rfl ?_
  refine ev_iload_n 3 d_L_law_290 rfl rfl ?_
  refine ev_iconst (v := 1) d_L_law_291 (by decide) ?_
  refine ev_iadd d_L_law_292 ?_
  refine ev_sld d_L_law_293 (s_in _ 1 rfl (by omega) hL) ?_
  refine ev_aload_n 0 d_L_law_294 rfl rfl ?_
  refine ev_iload_n 3 d_L_law_295 rfl rfl ?_
  refine ev_iconst (v := 2) d_L_law_296 (by decide) ?_
  refine ev_iadd d_L_law_297 ?_
  refine ev_sld d_L_law_298 (s_in _ 2 rfl (by omega) hL) ?_
  refine ev_callV M_A_end [_, _] s1 c_L_41 d_L_law_299 h0 rfl (by decide) (Nat.le_of_ble_eq_true rfl) ⟨rfl, rfl⟩ l1 ?_
  refine ev_aload_n 2 d_L_law_302 rfl rfl ?_
  refine ev_aload_n 0 d_L_law_303 rfl rfl ?_
  refine ev_iload_n 3 d_L_law_304 rfl rfl ?_
  refine ev_iconst (v := 1) d_L_law_305 (by decide) ?_
  refine ev_iadd d_L_law_306 ?_
  refine ev_sld d_L_law_307 (s_in _ 1 rfl (by omega) hL) ?_
  refine ev_aload_n 0 d_L_law_308 rfl rfl ?_
  refine ev_iload_n 3 d_L_law_309 rfl rfl ?_
  refine ev_iconst (v := 2) d_L_law_310 (by decide) ?_
  refine ev_iadd d_L_law_311 ?_
  refine ev_sld d_L_law_312 (s_in _ 2 rfl (by omega) hL) ?_
  refine ev_callV M_M_end [_, _] s2 c_L_45 d_L_law_313 h25 rfl (by decide) (Nat.le_of_ble_eq_true rfl) ⟨rfl, rfl⟩ l2 ?_
  refine ev_icmp_eq 586 d_L_law_316 (by decide) (fun q => ?_) (fun q => ?_)
  · exact kk
  · exact absurd rfl q
theorem lo_first (S : zStep I) (hL : L ≤ 3072) (hi : i + 6 ≤ L) (hw : I w) (k : ∀ w2, I w2 → LE L xs 586 i w2) : LE L xs 321 i w := by
  obtain ⟨r, w1, w2, fs, fs', s1, s2, h2, l1, l2, h0, h25⟩ := S.2.2.2.2.2.2.2.1 w hw (xs (nI i + 1).toNatClampNeg)
  obtain ⟨wf, kk⟩ := k w2 h2
  refine ⟨wf, ?_⟩
  refine ev_aload_n 1 d_L_law_321 rfl rfl ?_
  refine ev_aload_n 0 d_L_law_322 rfl rfl ?_
  refine ev_iload_n 3 d_L_law_323 rfl rfl ?_
  refine ev_iconst (v := 1) d_L_law_324 (by decide) ?_
  refine ev_iadd d_L_law_325 ?_
  refine ev_sld d_L_law_326 (s_in _ 1 rfl (by omega) hL) ?_
  refine ev_callV M_A_first [_] s1 c_L_46 d_L_law_327 h0 rfl (by decide) (Nat.le_of_ble_eq_true rfl) ⟨rfl, rfl⟩ l1 ?_
  refine ev_aload_n 2 d_L_law_330 rfl rfl ?_
  refine ev_aload_n 0 d_L_law_331 rfl rfl ?_
  refine ev_iload_n 3 d_L_law_332 rfl rfl ?_
  refine ev_iconst (v := 1) d_L_law_333 (by decide) ?_
  refine ev_iadd d_L_law_334 ?_
  refine ev_sld d_L_law_335 (s_in _ 1 rfl (by omega) hL) ?_
  refine ev_callV M_M_first [_] s2 c_L_50 d_L_law_336 h25 rfl (by decide) (Nat.le_of_ble_eq_true rfl) ⟨rfl, rfl⟩ l2 ?_
  refine ev_lcmp d_L_law_339 ?_
  refine ev_if_eq 586 d_L_law_340 (by decide) (fun q => ?_) (fun q => ?_)
  · exact kk
  · exact absurd (by simp [lg_cmp]) q
theorem lo_second (S : zStep I) (hL : L ≤ 3072) (hi : i + 6 ≤ L) (hw : I w) (k : ∀ w2, I w2 → LE L xs 586 i w2) : LE L xs 345 i w := by
  obtain ⟨r, w1, w2, fs, fs', s1, s2, h2, l1, l2, h0, h25⟩ := S.2.2.2.2.2.2.2.2.1 w hw (xs (nI i + 1).toNatClampNeg)
  obtain ⟨wf, kk⟩ := k w2 h2
  refine ⟨wf, ?_⟩
  refine ev_aload_n 1 d_L_law_345 rfl rfl ?_
  refine ev_aload_n 0 d_L_law_346 rfl rfl ?_
  refine ev_iload_n 3 d_L_law_347 rfl rfl ?_
  refine ev_iconst (v := 1) d_L_law_348 (by decide) ?_
  refine ev_iadd d_L_law_349 ?_
  refine ev_sld d_L_law_350 (s_in _ 1 rfl (by omega) hL) ?_
  refine ev_callV M_A_second [_] s1 c_L_51 d_L_law_351 h0 rfl (by decide) (Nat.le_of_ble_eq_true rfl) ⟨rfl, rfl⟩ l1 ?_
  refine ev_aload_n 2 d_L_law_354 rfl rfl ?_
  refine ev_aload_n 0 d_L_law_355 rfl rfl ?_
  refine ev_iload_n 3 d_L_law_356 rfl rfl ?_
  refine ev_iconst (v := 1) d_L_law_357 (by decide) ?_
  refine ev_iadd d_L_law_358 ?_
  refine ev_sld d_L_law_359 (s_in _ 1 rfl (by omega) hL) ?_
  refine ev_callV M_M_second [_] s2 c_L_54 d_L_law_360 h25 rfl (by decide) (Nat.le_of_ble_eq_true rfl) ⟨rfl, rfl⟩ l2 ?_
  refine ev_lcmp d_L_law_363 ?_
  refine ev_if_eq 586 d_L_law_364 (by decide) (fun q => ?_) (fun q => ?_)
  · exact kk
  · exact absurd (by simp [lg_cmp]) q
theorem lo_twist (S : zStep I) (hL : L ≤ 3072) (hi : i + 6 ≤ L) (hw : I w) (k : ∀ w2, I w2 → LE L xs 586 i w2) : LE L xs 369 i w := by
  obtain ⟨r, w1, w2, fs, fs', s1, s2, h2, l1, l2, h0, h25⟩ := S.2.2.2.2.2.2.2.2.2.1 w hw (xs (nI i + 1).toNatClampNeg) (xs (nI i + 2).toNatClampNeg)
  obtain ⟨wf, kk⟩ := k w2 h2
  refine ⟨wf, ?_⟩
  refine ev_aload_n 1 d_L_law_369 rfl rfl ?_
  refine ev_aload_n 0 d_L_law_370 rfl rfl ?_
  refine ev_iload_n 3 d_L_law_371 rfl rfl ?_
  refine ev_iconst (v := 1) d_L_law_372 (by decide) ?_
  refine ev_iadd d_L_law_373 ?_
  refine ev_sld d_L_law_374 (s_in _ 1 rfl (by omega) hL) ?_
  refine ev_aload_n 0 d_L_law_375 rfl rfl ?_
  refine ev_iload_n 3 d_L_law_376 rfl rfl ?_
  refine ev_iconst (v := 2) d_L_law_377 (by decide) ?_
  refine ev_iadd d_L_law_378 ?_
  refine ev_sld d_L_law_379 (s_in _ 2 rfl (by omega) hL) ?_
  refine ev_callV M_A_twist [_, _] s1 c_L_55 d_L_law_380 h0 rfl (by decide) (Nat.le_of_ble_eq_true rfl) ⟨rfl, rfl⟩ l1 ?_
  refine ev_aload_n 2 d_L_law_383 rfl rfl ?_
  refine ev_aload_n 0 d_L_law_384 rfl rfl ?_
  refine ev_iload_n 3 d_L_law_385 rfl rfl ?_
  refine ev_iconst (v := 1) d_L_law_386 (by decide) ?_
  refine ev_iadd d_L_law_387 ?_
  refine ev_sld d_L_law_388 (s_in _ 1 rfl (by omega) hL) ?_
  refine ev_aload_n 0 d_L_law_389 rfl rfl ?_
  refine ev_iload_n 3 d_L_law_390 rfl rfl ?_
  refine ev_iconst (v := 2) d_L_law_391 (by decide) ?_
  refine ev_iadd d_L_law_392 ?_
  refine ev_sld d_L_law_393 (s_in _ 2 rfl (by omega) hL) ?_
  refine ev_callV M_M_twist [_, _] s2 c_L_59 d_L_law_394 h25 rfl (by decide) (Nat.le_of_ble_eq_true rfl) ⟨rfl, rfl⟩ l2 ?_
  refine ev_icmp_eq 586 d_L_law_397 (by decide) (fun q => ?_) (fun q => ?_)
  · exact kk
  · exact absurd rfl q
theorem lo_untwist (S : zStep I) (hL : L ≤ 3072) (hi : i + 6 ≤ L) (hw : I w) (k : ∀ w2, I w2 → LE L xs 586 i w2) : LE L xs 402 i w := by
  obtain ⟨r, w1, w2, fs, fs', s1, s2, h2, l1, l2, h0, h25⟩ := S.2.2.2.2.2.2.2.2.2.2.1 w hw (xs (nI i + 1).toNatClampNeg)
  obtain ⟨wf, kk⟩ := k w2 h2
  refine ⟨wf, ?_⟩
  refine ev_aload_n 1 d_L_law_402 rfl rfl ?_
  refine ev_aload_n 0 d_L_law_403 rfl rfl ?_
  refine ev_iload_n 3 d_L_law_404 rfl rfl ?_
  refine ev_iconst (v := 1) d_L_law_405 (by decide) ?_
  refine ev_iadd d_L_law_406 ?_
  refine ev_sld d_L_law_407 (s_in _ 1 rfl (by omega) hL) ?_
  refine ev_callV M_A_untwist [_] s1 c_L_60 d_L_law_408 h0 rfl (by decide) (Nat.le_of_ble_eq_true rfl) ⟨rfl, rfl⟩ l1 ?_
  refine ev_aload_n 2 d_L_law_411 rfl rfl ?_
  refine ev_aload_n 0 d_L_law_412 rfl rfl ?_
  refine ev_iload_n 3 d_L_law_413 rfl rfl ?_
  refine ev_iconst (v := 1) d_L_law_414 (by decide) ?_
  refine ev_iadd d_L_law_415 ?_
  refine ev_sld d_L_law_416 (s_in _ 1 rfl (by omega) hL) ?_
  refine ev_callV M_M_untwist [_] s2 c_L_63 d_L_law_417 h25 rfl (by decide) (Nat.le_of_ble_eq_true rfl) ⟨rfl, rfl⟩ l2 ?_
  refine ev_icmp_eq 586 d_L_law_420 (by decide) (fun q => ?_) (fun q => ?_)
  · exact kk
  · exact absurd rfl q
theorem lo_poke (S : zStep I) (hL : L ≤ 3072) (hi : i + 6 ≤ L) (hw : I w) (k : ∀ w2, I w2 → LE L xs 586 i w2) : LE L xs 425 i w := by
  by_cases e1 : (xs (nI i + 2).toNatClampNeg) = 0
  · skip
    by_cases e3 : (xs (nI i + 4).toNatClampNeg) = 0
    · skip
      obtain ⟨r, w1, w2, fs, fs', s1, s2, h2, l1, l2, h0, h25⟩ := S.2.2.2.2.2.2.2.2.2.2.2.1 w hw (xs (nI i + 1).toNatClampNeg) false (xs (nI i + 3).toNatClampNeg) false
      obtain ⟨wf, kk⟩ := k w2 h2
      refine ⟨wf, ?_⟩
      refine ev_aload_n 1 d_L_law_425 rfl rfl ?_
      refine ev_aload_n 0 d_L_law_426 rfl rfl ?_
      refine ev_iload_n 3 d_L_law_427 rfl rfl ?_
      refine ev_iconst (v := 1) d_L_law_428 (by decide) ?_
      refine ev_iadd d_L_law_429 ?_
      refine ev_sld d_L_law_430 (s_in _ 1 rfl (by omega) hL) ?_
      refine ev_aload_n 0 d_L_law_431 rfl rfl ?_
      refine ev_iload_n 3 d_L_law_432 rfl rfl ?_
      refine ev_iconst (v := 2) d_L_law_433 (by decide) ?_
      refine ev_iadd d_L_law_434 ?_
      refine ev_sld d_L_law_435 (s_in _ 2 rfl (by omega) hL) ?_
      refine ev_if_eq 443 d_L_law_436 (by decide) (fun q => ?_) (fun q => ?_)
      rotate_left
      · exact absurd e1 q
      refine ev_iconst (v := 0) d_L_law_443 (by decide) ?_
      refine ev_aload_n 0 d_L_law_444 rfl rfl ?_
      refine ev_iload_n 3 d_L_law_445 rfl rfl ?_
      refine ev_iconst (v := 3) d_L_law_446 (by decide) ?_
      refine ev_iadd d_L_law_447 ?_
      refine ev_sld d_L_law_448 (s_in _ 3 rfl (by omega) hL) ?_
      refine ev_aload_n 0 d_L_law_449 rfl rfl ?_
      refine ev_iload_n 3 d_L_law_450 rfl rfl ?_
      refine ev_iconst (v := 4) d_L_law_451 (by decide) ?_
      refine ev_iadd d_L_law_452 ?_
      refine ev_sld d_L_law_453 (s_in _ 4 rfl (by omega) hL) ?_
      refine ev_if_eq 461 d_L_law_454 (by decide) (fun q => ?_) (fun q => ?_)
      rotate_left
      · exact absurd e3 q
      refine ev_iconst (v := 0) d_L_law_461 (by decide) ?_
      refine ev_callV M_A_poke [_, _, _, _] s1 c_L_64 d_L_law_462 h0 rfl (by decide) (Nat.le_of_ble_eq_true rfl) ⟨rfl, rfl⟩ l1 ?_
      refine ev_aload_n 2 d_L_law_465 rfl rfl ?_
      refine ev_aload_n 0 d_L_law_466 rfl rfl ?_
      refine ev_iload_n 3 d_L_law_467 rfl rfl ?_
      refine ev_iconst (v := 1) d_L_law_468 (by decide) ?_
      refine ev_iadd d_L_law_469 ?_
      refine ev_sld d_L_law_470 (s_in _ 1 rfl (by omega) hL) ?_
      refine ev_aload_n 0 d_L_law_471 rfl rfl ?_
      refine ev_iload_n 3 d_L_law_472 rfl rfl ?_
      refine ev_iconst (v := 2) d_L_law_473 (by decide) ?_
      refine ev_iadd d_L_law_474 ?_
      refine ev_sld d_L_law_475 (s_in _ 2 rfl (by omega) hL) ?_
      refine ev_if_eq 483 d_L_law_476 (by decide) (fun q => ?_) (fun q => ?_)
      rotate_left
      · exact absurd e1 q
      refine ev_iconst (v := 0) d_L_law_483 (by decide) ?_
      refine ev_aload_n 0 d_L_law_484 rfl rfl ?_
      refine ev_iload_n 3 d_L_law_485 rfl rfl ?_
      refine ev_iconst (v := 3) d_L_law_486 (by decide) ?_
      refine ev_iadd d_L_law_487 ?_
      refine ev_sld d_L_law_488 (s_in _ 3 rfl (by omega) hL) ?_
      refine ev_aload_n 0 d_L_law_489 rfl rfl ?_
      refine ev_iload_n 3 d_L_law_490 rfl rfl ?_
      refine ev_iconst (v := 4) d_L_law_491 (by decide) ?_
      refine ev_iadd d_L_law_492 ?_
      refine ev_sld d_L_law_493 (s_in _ 4 rfl (by omega) hL) ?_
      refine ev_if_eq 501 d_L_law_494 (by decide) (fun q => ?_) (fun q => ?_)
      rotate_left
      · exact absurd e3 q
      refine ev_iconst (v := 0) d_L_law_501 (by decide) ?_
      refine ev_callV M_M_poke [_, _, _, _] s2 c_L_68 d_L_law_502 h25 rfl (by decide) (Nat.le_of_ble_eq_true rfl) ⟨rfl, rfl⟩ l2 ?_
      refine ev_icmp_eq 586 d_L_law_505 (by decide) (fun q => ?_) (fun q => ?_)
      · exact kk
      · exact absurd rfl q
    · skip
      obtain ⟨r, w1, w2, fs, fs', s1, s2, h2, l1, l2, h0, h25⟩ := S.2.2.2.2.2.2.2.2.2.2.2.1 w hw (xs (nI i + 1).toNatClampNeg) false (xs (nI i + 3).toNatClampNeg) true
      obtain ⟨wf, kk⟩ := k w2 h2
      refine ⟨wf, ?_⟩
      refine ev_aload_n 1 d_L_law_425 rfl rfl ?_
      refine ev_aload_n 0 d_L_law_426 rfl rfl ?_
      refine ev_iload_n 3 d_L_law_427 rfl rfl ?_
      refine ev_iconst (v := 1) d_L_law_428 (by decide) ?_
      refine ev_iadd d_L_law_429 ?_
      refine ev_sld d_L_law_430 (s_in _ 1 rfl (by omega) hL) ?_
      refine ev_aload_n 0 d_L_law_431 rfl rfl ?_
      refine ev_iload_n 3 d_L_law_432 rfl rfl ?_
      refine ev_iconst (v := 2) d_L_law_433 (by decide) ?_
      refine ev_iadd d_L_law_434 ?_
      refine ev_sld d_L_law_435 (s_in _ 2 rfl (by omega) hL) ?_
      refine ev_if_eq 443 d_L_law_436 (by decide) (fun q => ?_) (fun q => ?_)
      rotate_left
      · exact absurd e1 q
      refine ev_iconst (v := 0) d_L_law_443 (by decide) ?_
      refine ev_aload_n 0 d_L_law_444 rfl rfl ?_
      refine ev_iload_n 3 d_L_law_445 rfl rfl ?_
      refine ev_iconst (v := 3) d_L_law_446 (by decide) ?_
      refine ev_iadd d_L_law_447 ?_
      refine ev_sld d_L_law_448 (s_in _ 3 rfl (by omega) hL) ?_
      refine ev_aload_n 0 d_L_law_449 rfl rfl ?_
      refine ev_iload_n 3 d_L_law_450 rfl rfl ?_
      refine ev_iconst (v := 4) d_L_law_451 (by decide) ?_
      refine ev_iadd d_L_law_452 ?_
      refine ev_sld d_L_law_453 (s_in _ 4 rfl (by omega) hL) ?_
      refine ev_if_eq 461 d_L_law_454 (by decide) (fun q => ?_) (fun q => ?_)
      · exact absurd q e3
      · refine ev_iconst (v := 1) d_L_law_457 (by decide) ?_
        refine ev_goto 462 d_L_law_458 (by decide) ?_
        refine ev_callV M_A_poke [_, _, _, _] s1 c_L_64 d_L_law_462 h0 rfl (by decide) (Nat.le_of_ble_eq_true rfl) ⟨rfl, rfl⟩ l1 ?_
        refine ev_aload_n 2 d_L_law_465 rfl rfl ?_
        refine ev_aload_n 0 d_L_law_466 rfl rfl ?_
        refine ev_iload_n 3 d_L_law_467 rfl rfl ?_
        refine ev_iconst (v := 1) d_L_law_468 (by decide) ?_
        refine ev_iadd d_L_law_469 ?_
        refine ev_sld d_L_law_470 (s_in _ 1 rfl (by omega) hL) ?_
        refine ev_aload_n 0 d_L_law_471 rfl rfl ?_
        refine ev_iload_n 3 d_L_law_472 rfl rfl ?_
        refine ev_iconst (v := 2) d_L_law_473 (by decide) ?_
        refine ev_iadd d_L_law_474 ?_
        refine ev_sld d_L_law_475 (s_in _ 2 rfl (by omega) hL) ?_
        refine ev_if_eq 483 d_L_law_476 (by decide) (fun q => ?_) (fun q => ?_)
        rotate_left
        · exact absurd e1 q
        refine ev_iconst (v := 0) d_L_law_483 (by decide) ?_
        refine ev_aload_n 0 d_L_law_484 rfl rfl ?_
        refine ev_iload_n 3 d_L_law_485 rfl rfl ?_
        refine ev_iconst (v := 3) d_L_law_486 (by decide) ?_
        refine ev_iadd d_L_law_487 ?_
        refine ev_sld d_L_law_488 (s_in _ 3 rfl (by omega) hL) ?_
        refine ev_aload_n 0 d_L_law_489 rfl rfl ?_
        refine ev_iload_n 3 d_L_law_490 rfl rfl ?_
        refine ev_iconst (v := 4) d_L_law_491 (by decide) ?_
        refine ev_iadd d_L_law_492 ?_
        refine ev_sld d_L_law_493 (s_in _ 4 rfl (by omega) hL) ?_
        refine ev_if_eq 501 d_L_law_494 (by decide) (fun q => ?_) (fun q => ?_)
        · exact absurd q e3
        · refine ev_iconst (v := 1) d_L_law_497 (by decide) ?_
          refine ev_goto 502 d_L_law_498 (by decide) ?_
          refine ev_callV M_M_poke [_, _, _, _] s2 c_L_68 d_L_law_502 h25 rfl (by decide) (Nat.le_of_ble_eq_true rfl) ⟨rfl, rfl⟩ l2 ?_
          refine ev_icmp_eq 586 d_L_law_505 (by decide) (fun q => ?_) (fun q => ?_)
          · exact kk
          · exact absurd rfl q
  · skip
    by_cases e3 : (xs (nI i + 4).toNatClampNeg) = 0
    · skip
      obtain ⟨r, w1, w2, fs, fs', s1, s2, h2, l1, l2, h0, h25⟩ := S.2.2.2.2.2.2.2.2.2.2.2.1 w hw (xs (nI i + 1).toNatClampNeg) true (xs (nI i + 3).toNatClampNeg) false
      obtain ⟨wf, kk⟩ := k w2 h2
      refine ⟨wf, ?_⟩
      refine ev_aload_n 1 d_L_law_425 rfl rfl ?_
      refine ev_aload_n 0 d_L_law_426 rfl rfl ?_
      refine ev_iload_n 3 d_L_law_427 rfl rfl ?_
      refine ev_iconst (v := 1) d_L_law_428 (by decide) ?_
      refine ev_iadd d_L_law_429 ?_
      refine ev_sld d_L_law_430 (s_in _ 1 rfl (by omega) hL) ?_
      refine ev_aload_n 0 d_L_law_431 rfl rfl ?_
      refine ev_iload_n 3 d_L_law_432 rfl rfl ?_
      refine ev_iconst (v := 2) d_L_law_433 (by decide) ?_
      refine ev_iadd d_L_law_434 ?_
      refine ev_sld d_L_law_435 (s_in _ 2 rfl (by omega) hL) ?_
      refine ev_if_eq 443 d_L_law_436 (by decide) (fun q => ?_) (fun q => ?_)
      · exact absurd q e1
      · refine ev_iconst (v := 1) d_L_law_439 (by decide) ?_
        refine ev_goto 444 d_L_law_440 (by decide) ?_
        refine ev_aload_n 0 d_L_law_444 rfl rfl ?_
        refine ev_iload_n 3 d_L_law_445 rfl rfl ?_
        refine ev_iconst (v := 3) d_L_law_446 (by decide) ?_
        refine ev_iadd d_L_law_447 ?_
        refine ev_sld d_L_law_448 (s_in _ 3 rfl (by omega) hL) ?_
        refine ev_aload_n 0 d_L_law_449 rfl rfl ?_
        refine ev_iload_n 3 d_L_law_450 rfl rfl ?_
        refine ev_iconst (v := 4) d_L_law_451 (by decide) ?_
        refine ev_iadd d_L_law_452 ?_
        refine ev_sld d_L_law_453 (s_in _ 4 rfl (by omega) hL) ?_
        refine ev_if_eq 461 d_L_law_454 (by decide) (fun q => ?_) (fun q => ?_)
        rotate_left
        · exact absurd e3 q
        refine ev_iconst (v := 0) d_L_law_461 (by decide) ?_
        refine ev_callV M_A_poke [_, _, _, _] s1 c_L_64 d_L_law_462 h0 rfl (by decide) (Nat.le_of_ble_eq_true rfl) ⟨rfl, rfl⟩ l1 ?_
        refine ev_aload_n 2 d_L_law_465 rfl rfl ?_
        refine ev_aload_n 0 d_L_law_466 rfl rfl ?_
        refine ev_iload_n 3 d_L_law_467 rfl rfl ?_
        refine ev_iconst (v := 1) d_L_law_468 (by decide) ?_
        refine ev_iadd d_L_law_469 ?_
        refine ev_sld d_L_law_470 (s_in _ 1 rfl (by omega) hL) ?_
        refine ev_aload_n 0 d_L_law_471 rfl rfl ?_
        refine ev_iload_n 3 d_L_law_472 rfl rfl ?_
        refine ev_iconst (v := 2) d_L_law_473 (by decide) ?_
        refine ev_iadd d_L_law_474 ?_
        refine ev_sld d_L_law_475 (s_in _ 2 rfl (by omega) hL) ?_
        refine ev_if_eq 483 d_L_law_476 (by decide) (fun q => ?_) (fun q => ?_)
        · exact absurd q e1
        · refine ev_iconst (v := 1) d_L_law_479 (by decide) ?_
          refine ev_goto 484 d_L_law_480 (by decide) ?_
          refine ev_aload_n 0 d_L_law_484 rfl rfl ?_
          refine ev_iload_n 3 d_L_law_485 rfl rfl ?_
          refine ev_iconst (v := 3) d_L_law_486 (by decide) ?_
          refine ev_iadd d_L_law_487 ?_
          refine ev_sld d_L_law_488 (s_in _ 3 rfl (by omega) hL) ?_
          refine ev_aload_n 0 d_L_law_489 rfl rfl ?_
          refine ev_iload_n 3 d_L_law_490 rfl rfl ?_
          refine ev_iconst (v := 4) d_L_law_491 (by decide) ?_
          refine ev_iadd d_L_law_492 ?_
          refine ev_sld d_L_law_493 (s_in _ 4 rfl (by omega) hL) ?_
          refine ev_if_eq 501 d_L_law_494 (by decide) (fun q => ?_) (fun q => ?_)
          rotate_left
          · exact absurd e3 q
          refine ev_iconst (v := 0) d_L_law_501 (by decide) ?_
          refine ev_callV M_M_poke [_, _, _, _] s2 c_L_68 d_L_law_502 h25 rfl (by decide) (Nat.le_of_ble_eq_true rfl) ⟨rfl, rfl⟩ l2 ?_
          refine ev_icmp_eq 586 d_L_law_505 (by decide) (fun q => ?_) (fun q => ?_)
          · exact kk
          · exact absurd rfl q
    · skip
      obtain ⟨r, w1, w2, fs, fs', s1, s2, h2, l1, l2, h0, h25⟩ := S.2.2.2.2.2.2.2.2.2.2.2.1 w hw (xs (nI i + 1).toNatClampNeg) true (xs (nI i + 3).toNatClampNeg) true
      obtain ⟨wf, kk⟩ := k w2 h2
      refine ⟨wf, ?_⟩
      refine ev_aload_n 1 d_L_law_425 rfl rfl ?_
      refine ev_aload_n 0 d_L_law_426 rfl rfl ?_
      refine ev_iload_n 3 d_L_law_427 rfl rfl ?_
      refine ev_iconst (v := 1) d_L_law_428 (by decide) ?_
      refine ev_iadd d_L_law_429 ?_
      refine ev_sld d_L_law_430 (s_in _ 1 rfl (by omega) hL) ?_
      refine ev_aload_n 0 d_L_law_431 rfl rfl ?_
      refine ev_iload_n 3 d_L_law_432 rfl rfl ?_
      refine ev_iconst (v := 2) d_L_law_433 (by decide) ?_
      refine ev_iadd d_L_law_434 ?_
      refine ev_sld d_L_law_435 (s_in _ 2 rfl (by omega) hL) ?_
      refine ev_if_eq 443 d_L_law_436 (by decide) (fun q => ?_) (fun q => ?_)
      · exact absurd q e1
      · refine ev_iconst (v := 1) d_L_law_439 (by decide) ?_
        refine ev_goto 444 d_L_law_440 (by decide) ?_
        refine ev_aload_n 0 d_L_law_444 rfl rfl ?_
        refine ev_iload_n 3 d_L_law_445 rfl rfl ?_
        refine ev_iconst (v := 3) d_L_law_446 (by decide) ?_
        refine ev_iadd d_L_law_447 ?_
        refine ev_sld d_L_law_448 (s_in _ 3 rfl (by omega) hL) ?_
        refine ev_aload_n 0 d_L_law_449 rfl rfl ?_
        refine ev_iload_n 3 d_L_law_450 rfl rfl ?_
        refine ev_iconst (v := 4) d_L_law_451 (by decide) ?_
        refine ev_iadd d_L_law_452 ?_
        refine ev_sld d_L_law_453 (s_in _ 4 rfl (by omega) hL) ?_
        refine ev_if_eq 461 d_L_law_454 (by decide) (fun q => ?_) (fun q => ?_)
        · exact absurd q e3
        · refine ev_iconst (v := 1) d_L_law_457 (by decide) ?_
          refine ev_goto 462 d_L_law_458 (by decide) ?_
          refine ev_callV M_A_poke [_, _, _, _] s1 c_L_64 d_L_law_462 h0 rfl (by decide) (Nat.le_of_ble_eq_true rfl) ⟨rfl, rfl⟩ l1 ?_
          refine ev_aload_n 2 d_L_law_465 rfl rfl ?_
          refine ev_aload_n 0 d_L_law_466 rfl rfl ?_
          refine ev_iload_n 3 d_L_law_467 rfl rfl ?_
          refine ev_iconst (v := 1) d_L_law_468 (by decide) ?_
          refine ev_iadd d_L_law_469 ?_
          refine ev_sld d_L_law_470 (s_in _ 1 rfl (by omega) hL) ?_
          refine ev_aload_n 0 d_L_law_471 rfl rfl ?_
          refine ev_iload_n 3 d_L_law_472 rfl rfl ?_
          refine ev_iconst (v := 2) d_L_law_473 (by decide) ?_
          refine ev_iadd d_L_law_474 ?_
          refine ev_sld d_L_law_475 (s_in _ 2 rfl (by omega) hL) ?_
          refine ev_if_eq 483 d_L_law_476 (by decide) (fun q => ?_) (fun q => ?_)
          · exact absurd q e1
          · refine ev_iconst (v := 1) d_L_law_479 (by decide) ?_
            refine ev_goto 484 d_L_law_480 (by decide) ?_
            refine ev_aload_n 0 d_L_law_484 rfl rfl ?_
            refine ev_iload_n 3 d_L_law_485 rfl rfl ?_
            refine ev_iconst (v := 3) d_L_law_486 (by decide) ?_
            refine ev_iadd d_L_law_487 ?_
            refine ev_sld d_L_law_488 (s_in _ 3 rfl (by omega) hL) ?_
            refine ev_aload_n 0 d_L_law_489 rfl rfl ?_
            refine ev_iload_n 3 d_L_law_490 rfl rfl ?_
            refine ev_iconst (v := 4) d_L_law_491 (by decide) ?_
            refine ev_iadd d_L_law_492 ?_
            refine ev_sld d_L_law_493 (s_in _ 4 rfl (by omega) hL) ?_
            refine ev_if_eq 501 d_L_law_494 (by decide) (fun q => ?_) (fun q => ?_)
            · exact absurd q e3
            · refine ev_iconst (v := 1) d_L_law_497 (by decide) ?_
              refine ev_goto 502 d_L_law_498 (by decide) ?_
              refine ev_callV M_M_poke [_, _, _, _] s2 c_L_68 d_L_law_502 h25 rfl (by decide) (Nat.le_of_ble_eq_true rfl) ⟨rfl, rfl⟩ l2 ?_
              refine ev_icmp_eq 586 d_L_law_505 (by decide) (fun q => ?_) (fun q => ?_)
              · exact kk
              · exact absurd rfl q
theorem lo_unpoke (S : zStep I) (hL : L ≤ 3072) (hi : i + 6 ≤ L) (hw : I w) (k : ∀ w2, I w2 → LE L xs 586 i w2) : LE L xs 510 i w := by
  obtain ⟨r, w1, w2, fs, fs', s1, s2, h2, l1, l2, h0, h25⟩ := S.2.2.2.2.2.2.2.2.2.2.2.2.1 w hw (xs (nI i + 1).toNatClampNeg) (xs (nI i + 2).toNatClampNeg)
  obtain ⟨wf, kk⟩ := k w2 h2
  refine ⟨wf, ?_⟩
  refine ev_aload_n 1 d_L_law_510 rfl rfl ?_
  refine ev_aload_n 0 d_L_law_511 rfl rfl ?_
  refine ev_iload_n 3 d_L_law_512 rfl rfl ?_
  refine ev_iconst (v := 1) d_L_law_513 (by decide) ?_
  refine ev_iadd d_L_law_514 ?_
  refine ev_sld d_L_law_515 (s_in _ 1 rfl (by omega) hL) ?_
  refine ev_aload_n 0 d_L_law_516 rfl rfl ?_
  refine ev_iload_n 3 d_L_law_517 rfl rfl ?_
  refine ev_iconst (v := 2) d_L_law_518 (by decide) ?_
  refine ev_iadd d_L_law_519 ?_
  refine ev_sld d_L_law_520 (s_in _ 2 rfl (by omega) hL) ?_
  refine ev_callV M_A_unpoke [_, _] s1 c_L_69 d_L_law_521 h0 rfl (by decide) (Nat.le_of_ble_eq_true rfl) ⟨rfl, rfl⟩ l1 ?_
  refine ev_aload_n 2 d_L_law_524 rfl rfl ?_
  refine ev_aload_n 0 d_L_law_525 rfl rfl ?_
  refine ev_iload_n 3 d_L_law_526 rfl rfl ?_
  refine ev_iconst (v := 1) d_L_law_527 (by decide) ?_
  refine ev_iadd d_L_law_528 ?_
  refine ev_sld d_L_law_529 (s_in _ 1 rfl (by omega) hL) ?_
  refine ev_aload_n 0 d_L_law_530 rfl rfl ?_
  refine ev_iload_n 3 d_L_law_531 rfl rfl ?_
  refine ev_iconst (v := 2) d_L_law_532 (by decide) ?_
  refine ev_iadd d_L_law_533 ?_
  refine ev_sld d_L_law_534 (s_in _ 2 rfl (by omega) hL) ?_
  refine ev_callV M_M_unpoke [_, _] s2 c_L_72 d_L_law_535 h25 rfl (by decide) (Nat.le_of_ble_eq_true rfl) ⟨rfl, rfl⟩ l2 ?_
  refine ev_icmp_eq 586 d_L_law_538 (by decide) (fun q => ?_) (fun q => ?_)
  · exact kk
  · exact absurd rfl q
theorem lo_slide (S : zStep I) (hL : L ≤ 3072) (hi : i + 6 ≤ L) (hw : I w) (k : ∀ w2, I w2 → LE L xs 586 i w2) : LE L xs 543 i w := by
  obtain ⟨r, w1, w2, fs, fs', s1, s2, h2, l1, l2, h0, h25⟩ := S.2.2.2.2.2.2.2.2.2.2.2.2.2 w hw (xs (nI i + 1).toNatClampNeg) (xs (nI i + 2).toNatClampNeg) (xs (nI i + 3).toNatClampNeg)
  obtain ⟨wf, kk⟩ := k w2 h2
  refine ⟨wf, ?_⟩
  refine ev_aload_n 1 d_L_law_543 rfl rfl ?_
  refine ev_aload_n 0 d_L_law_544 rfl rfl ?_
  refine ev_iload_n 3 d_L_law_545 rfl rfl ?_
  refine ev_iconst (v := 1) d_L_law_546 (by decide) ?_
  refine ev_iadd d_L_law_547 ?_
  refine ev_sld d_L_law_548 (s_in _ 1 rfl (by omega) hL) ?_
  refine ev_aload_n 0 d_L_law_549 rfl rfl ?_
  refine ev_iload_n 3 d_L_law_550 rfl rfl ?_
  refine ev_iconst (v := 2) d_L_law_551 (by decide) ?_
  refine ev_iadd d_L_law_552 ?_
  refine ev_sld d_L_law_553 (s_in _ 2 rfl (by omega) hL) ?_
  refine ev_aload_n 0 d_L_law_554 rfl rfl ?_
  refine ev_iload_n 3 d_L_law_555 rfl rfl ?_
  refine ev_iconst (v := 3) d_L_law_556 (by decide) ?_
  refine ev_iadd d_L_law_557 ?_
  refine ev_sld d_L_law_558 (s_in _ 3 rfl (by omega) hL) ?_
  refine ev_callV M_A_slide [_, _, _] s1 c_L_73 d_L_law_559 h0 rfl (by decide) (Nat.le_of_ble_eq_true rfl) ⟨rfl, rfl⟩ l1 ?_
  refine ev_aload_n 2 d_L_law_562 rfl rfl ?_
  refine ev_aload_n 0 d_L_law_563 rfl rfl ?_
  refine ev_iload_n 3 d_L_law_564 rfl rfl ?_
  refine ev_iconst (v := 1) d_L_law_565 (by decide) ?_
  refine ev_iadd d_L_law_566 ?_
  refine ev_sld d_L_law_567 (s_in _ 1 rfl (by omega) hL) ?_
  refine ev_aload_n 0 d_L_law_568 rfl rfl ?_
  refine ev_iload_n 3 d_L_law_569 rfl rfl ?_
  refine ev_iconst (v := 2) d_L_law_570 (by decide) ?_
  refine ev_iadd d_L_law_571 ?_
  refine ev_sld d_L_law_572 (s_in _ 2 rfl (by omega) hL) ?_
  refine ev_aload_n 0 d_L_law_573 rfl rfl ?_
  refine ev_iload_n 3 d_L_law_574 rfl rfl ?_
  refine ev_iconst (v := 3) d_L_law_575 (by decide) ?_
  refine ev_iadd d_L_law_576 ?_
  refine ev_sld d_L_law_577 (s_in _ 3 rfl (by omega) hL) ?_
  refine ev_callV M_M_slide [_, _, _] s2 c_L_77 d_L_law_578 h25 rfl (by decide) (Nat.le_of_ble_eq_true rfl) ⟨rfl, rfl⟩ l2 ?_
  refine ev_icmp_eq 586 d_L_law_581 (by decide) (fun q => ?_) (fun q => ?_)
  · exact kk
  · exact absurd rfl q
theorem law_lim {i L : Nat} (hL : L ≤ 3072) (hi : i ≤ 4000) : Int32.ofNat L - 6 < nI i ↔ L < i + 6 := by
  have a : (Int32.ofNat L).toInt = L := Int32.toInt_ofNat_of_lt (by omega)
  have b : (nI i).toInt = i := Int32.toInt_ofNat_of_lt (by omega)
  have c : (6 : Int32).toInt = 6 := by decide
  rw [Int32.lt_iff_toInt_lt, Int32.toInt_sub, a, b, c, Int.bmod_eq_of_le (by omega) (by omega)]
  omega
theorem and15 (x : Int32) : ∃ k, k < 16 ∧ x &&& 15 = nI k := by
  have h : x = nI x.toBitVec.toNat := by
    apply Int32.toBitVec_inj.mp
    simp [nI]
  refine ⟨x.toBitVec.toNat % 2 ^ 4, Nat.mod_lt _ (by decide), ?_⟩
  conv => lhs; rw [h]
  exact pk_andN x.toBitVec.isLt 4 (by decide)
theorem law_pre {wf : zW} (hL : L ≤ 3072) (hi : i + 6 ≤ L) (k : Ev M_L_law (some (L, xs)) (some (.int 1)) wf 33 (lvL i) [.int (xs (nI i).toNatClampNeg &&& 15)] w 38 6813) : Ev M_L_law (some (L, xs)) (some (.int 1)) wf 18 (lvL i) [] w 38 6813 := by
  refine ev_iload_n 3 d_L_law_18 rfl rfl ?_
  refine ev_aload_n 0 d_L_law_19 rfl rfl ?_
  refine ev_slen d_L_law_20 ?_
  refine ev_bipush (v := 6) d_L_law_21 (by decide) ?_
  refine ev_isub d_L_law_23 ?_
  refine ev_icmp_gt 592 d_L_law_24 (by decide) (fun q => ?_) (fun q => ?_)
  · exact absurd ((law_lim hL (by omega)).mp q) (by omega)
  · refine ev_aload_n 0 d_L_law_27 rfl rfl ?_
    refine ev_iload_n 3 d_L_law_28 rfl rfl ?_
    refine ev_sld d_L_law_29 (vp_in_nI (by omega) (by omega)) ?_
    refine ev_bipush (v := 15) d_L_law_30 (by decide) ?_
    refine ev_iand d_L_law_32 ?_
    exact k
theorem law_next (hi : i ≤ 4000) (k : LE L xs 18 (i + 6) w) : LE L xs 586 i w := by
  obtain ⟨wf, kk⟩ := k
  refine ⟨wf, ?_⟩
  refine ev_iinc (v := _ + 6) d_L_law_586 rfl rfl (Nat.le_of_ble_eq_true rfl) rfl ?_
  rw [show nI i + 6 = nI (i + 6) from nI_add i 6]
  refine ev_goto 18 d_L_law_589 (by decide) ?_
  exact kk
theorem law_end (hL : L ≤ 3072) (hi : ¬ i + 6 ≤ L) (hi2 : i ≤ 4000) : LE L xs 18 i w := by
  refine ⟨w, ?_⟩
  refine ev_iload_n 3 d_L_law_18 rfl rfl ?_
  refine ev_aload_n 0 d_L_law_19 rfl rfl ?_
  refine ev_slen d_L_law_20 ?_
  refine ev_bipush (v := 6) d_L_law_21 (by decide) ?_
  refine ev_isub d_L_law_23 ?_
  refine ev_icmp_gt 592 d_L_law_24 (by decide) (fun q => ?_) (fun q => ?_)
  · refine ev_iconst (v := 1) d_L_law_592 (by decide) ?_
    exact ev_iret d_L_law_593 rfl zr1 (Nat.le_of_ble_eq_true rfl) (Nat.le_of_ble_eq_true rfl)
  · exact absurd ((law_lim hL hi2).mpr (by omega)) q
theorem law_loop (S : zStep I) (hL : L ≤ 3072) : ∀ (k i : Nat) (w : zW), L ≤ i + k → i ≤ 3072 + 6 → I w → LE L xs 18 i w := by
  intro k
  induction k with
  | zero =>
    intro i w hk h2 hw
    exact law_end hL (by omega) (by omega)
  | succ k ih =>
    intro i w hk h2 hw
    by_cases hi : i + 6 ≤ L
    · have kn : ∀ w2, I w2 → LE L xs 586 i w2 := fun w2 hw2 => law_next (by omega) (ih (i + 6) w2 (by omega) (by omega) hw2)
      obtain ⟨v, hv, hx⟩ := and15 (xs (nI i).toNatClampNeg)
      have go : ∀ (tgt : Nat), (∀ wf, Ev M_L_law (some (L, xs)) (some (.int 1)) wf tgt (lvL i) [] w 38 6813 → Ev M_L_law (some (L, xs)) (some (.int 1)) wf 33 (lvL i) [.int (nI v)] w 38 6813) → LE L xs tgt i w → LE L xs 18 i w := by
        intro tgt ht hle
        obtain ⟨wf, kk⟩ := hle
        refine ⟨wf, law_pre hL hi ?_⟩
        rw [hx]
        exact ht wf kk
      match v, hv, go with
      | 0, _, go => exact go 104 (fun wf kk => ev_tabIn 104 d_L_law_33 (by decide) (by decide) rfl (by decide) kk) (lo_cross S hL hi hw kn)
      | 1, _, go => exact go 183 (fun wf kk => ev_tabIn 183 d_L_law_33 (by decide) (by decide) rfl (by decide) kk) (lo_drop S hL hi hw kn)
      | 2, _, go => exact go 196 (fun wf kk => ev_tabIn 196 d_L_law_33 (by decide) (by decide) rfl (by decide) kk) (lo_take S hL hi hw kn)
      | 3, _, go => exact go 219 (fun wf kk => ev_tabIn 219 d_L_law_33 (by decide) (by decide) rfl (by decide) kk) (lo_letter S hL hi hw kn)
      | 4, _, go => exact go 242 (fun wf kk => ev_tabIn 242 d_L_law_33 (by decide) (by decide) rfl (by decide) kk) (lo_braid S hL hi hw kn)
      | 5, _, go => exact go 265 (fun wf kk => ev_tabIn 265 d_L_law_33 (by decide) (by decide) rfl (by decide) kk) (lo_count S hL hi hw kn)
      | 6, _, go => exact go 288 (fun wf kk => ev_tabIn 288 d_L_law_33 (by decide) (by decide) rfl (by decide) kk) (lo_end S hL hi hw kn)
      | 7, _, go => exact go 321 (fun wf kk => ev_tabIn 321 d_L_law_33 (by decide) (by decide) rfl (by decide) kk) (lo_first S hL hi hw kn)
      | 8, _, go => exact go 345 (fun wf kk => ev_tabIn 345 d_L_law_33 (by decide) (by decide) rfl (by decide) kk) (lo_second S hL hi hw kn)
      | 9, _, go => exact go 369 (fun wf kk => ev_tabIn 369 d_L_law_33 (by decide) (by decide) rfl (by decide) kk) (lo_twist S hL hi hw kn)
      | 10, _, go => exact go 402 (fun wf kk => ev_tabIn 402 d_L_law_33 (by decide) (by decide) rfl (by decide) kk) (lo_untwist S hL hi hw kn)
      | 11, _, go => exact go 425 (fun wf kk => ev_tabIn 425 d_L_law_33 (by decide) (by decide) rfl (by decide) kk) (lo_poke S hL hi hw kn)
      | 12, _, go => exact go 510 (fun wf kk => ev_tabIn 510 d_L_law_33 (by decide) (by decide) rfl (by decide) kk) (lo_unpoke S hL hi hw kn)
      | 13, _, go => exact go 543 (fun wf kk => ev_tabIn 543 d_L_law_33 (by decide) (by decide) rfl (by decide) kk) (lo_slide S hL hi hw kn)
      | 14, _, go => exact go 586 (fun wf kk => ev_tabOut 586 d_L_law_33 (by decide) (by decide) kk) (kn w hw)
      | 15, _, go => exact go 586 (fun wf kk => ev_tabOut 586 d_L_law_33 (by decide) (by decide) kk) (kn w hw)
      | v + 16, hv, _ => exact absurd hv (by omega)
    · exact law_end hL hi (by omega)
theorem law_all (S : zStep I) (hL : L ≤ 3072) (h0 : I (kC 0 i0 i0 0 i0 i0 0 i0 i0 i0 i0 i0 i0 l0 i0 i0 i0 i0 l0 i0 i0 0 1 (mT i0 i0 0 0 1 i0 0 0 0 i0 l0 l0 l0 i0 0 i0 i0 l0 i0))) : ∃ wf, Ev M_L_law (some (L, xs)) (some (.int 1)) wf 0 [(0, .ref 1000000)] [] [] 0 0 := by
  obtain ⟨wf, kk⟩ := law_loop (L := L) (xs := xs) S hL L 0 _ (by omega) (by omega) h0
  refine ⟨wf, ?_⟩
  refine ev_new n_L_7 d_L_law_0 rfl (Nat.le_of_ble_eq_true rfl) rfl rfl rfl (Nat.le_of_ble_eq_true rfl) (Nat.le_of_ble_eq_true rfl) ?_
  refine ev_dup d_L_law_3 rfl ?_
  refine ev_callIG M_A_init [] sp_A_init c_L_9 d_L_law_4 rfl ⟨⟨Nat.le_of_ble_eq_true rfl, Nat.le_of_ble_eq_true rfl⟩, Nat.le_of_ble_eq_true rfl, Nat.le_of_ble_eq_true rfl⟩ (Nat.le_of_ble_eq_true rfl) rfl rfl ?_
  refine ev_astore_n 1 d_L_law_7 rfl (Nat.le_of_ble_eq_true rfl) rfl ?_
  refine ev_new n_L_10 d_L_law_8 rfl (Nat.le_of_ble_eq_true rfl) rfl rfl rfl (Nat.le_of_ble_eq_true rfl) (Nat.le_of_ble_eq_true rfl) ?_
  refine ev_dup d_L_law_11 rfl ?_
  refine ev_callIG M_M_init [] sp_M_init c_L_12 d_L_law_12 rfl ⟨⟨Nat.le_of_ble_eq_true rfl, Nat.le_of_ble_eq_true rfl⟩, Nat.le_of_ble_eq_true rfl, Nat.le_of_ble_eq_true rfl⟩ (Nat.le_of_ble_eq_true rfl) rfl rfl ?_
  refine ev_astore_n 2 d_L_law_15 rfl (Nat.le_of_ble_eq_true rfl) rfl ?_
  refine ev_iconst (v := 0) d_L_law_16 (by decide) ?_
  refine ev_istore_n 3 d_L_law_17 rfl (Nat.le_of_ble_eq_true rfl) rfl ?_
  exact kk
end LAW
