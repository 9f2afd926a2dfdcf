theorem lgc_eq {x y : Int64} (h : x = y) : lg_cmp x y = 0 := by
  subst h
  unfold lg_cmp
  simp
/-- what the law asks of an invariant of both sides: each pair of calls keeps it, and the compared answers are the same -/
def LawOk (J : St → St → Prop) : Prop := ∀ zx zm : St, J zx zm →
  (∀ (v0 v1 v2 : Int32), wp_X8_price v0 v1 v2 zx (fun r1 zx1 => (wp_X9_price v0 v1 v2 zm (fun r2 zm1 => J zx1 zm1)))) ∧
  (∀ (v0 : Int32), wp_X8_plain v0 zx (fun r1 zx1 => (wp_X9_plain v0 zm (fun r2 zm1 => J zx1 zm1)))) ∧
  (∀ (v0 v1 : Int32), wp_X8_at v0 v1 zx (fun r1 => (wp_X9_at v0 v1 zm (fun r2 zm1 => J zx zm1)))) ∧
  (∀ (v0 : Int32), wp_X8_home v0 zx (fun r1 zx1 => (wp_X9_home v0 zm (fun r2 zm1 => J zx1 zm1)))) ∧
  (∀ (v0 v1 v2 : Int32), wp_X8_base v0 v1 v2 zx (fun r1 zx1 => (wp_X9_base v0 v1 v2 zm (fun r2 zm1 => J zx1 zm1)))) ∧
  (∀ (v0 : Int32), wp_X8_cable v0 zx (fun r1 zx1 => (wp_X9_cable v0 zm (fun r2 zm1 => J zx1 zm1)))) ∧
  (∀ (v0 v1 v2 v3 v4 v5 v6 v7 : Int32), wp_X8_job v0 v1 v2 v3 v4 v5 v6 v7 zx (fun r1 zx1 => (wp_X9_job v0 v1 v2 v3 v4 v5 v6 v7 zm (fun r2 zm1 => J zx1 zm1)))) ∧
  (∀ (v0 v1 : Int32), wp_X8_of v0 v1 zx (fun r1 => (wp_X9_of v0 v1 zm (fun r2 zm1 => J zx zm1)))) ∧
  (∀ (v0 v1 : Int32), wp_X8_may v0 v1 zx (fun r1 zx1 => (wp_X9_may v0 v1 zm (fun r2 zm1 => J zx1 zm1)))) ∧
  (∀ (v0 v1 : Int32), wp_X8_put v0 v1 zx (fun r1 zx1 => (wp_X9_put v0 v1 zm (fun r2 zm1 => J zx1 zm1)))) ∧
  (wp_X8_whole zx (fun r1 zx1 => (wp_X9_whole zm (fun r2 zm1 => J zx1 zm1)))) ∧
  (wp_X8_each zx (fun r1 zx1 => (wp_X9_each zm (fun r2 zm1 => J zx1 zm1)))) ∧
  (∀ (v0 v1 v2 v3 v4 : Int32), wp_X8_feed v0 v1 v2 v3 v4 zx (fun r1 zx1 => (wp_X9_feed v0 v1 v2 v3 v4 zm (fun r2 zm1 => J zx1 zm1)))) ∧
  (∀ (v0 : Int32), wp_X8_end v0 zx (fun r1 zx1 => (wp_X9_end v0 zm (fun r2 zm1 => J zx1 zm1)))) ∧
  (∀ (a : Nat → Nat) , wp_X8_rules a zx (fun r1 u1 => (wp_X9_rules zm (fun r2 zm1 => (u1.1 0 = a 0 ∧ J u1.2 zm1))))) ∧
  (wp_X8_fault zx (fun r1 => (wp_X9_fault zm (fun r2 zm1 => J zx zm1)))) ∧
  (∀ (v0 : Int32), wp_X8_go v0 zx (fun r1 zx1 => (wp_X9_go v0 zm (fun r2 zm1 => J zx1 zm1)))) ∧
  (∀ (v0 v1 : Int32), wp_X8_load v0 v1 zx (fun r1 => (wp_X9_load v0 v1 zm (fun r2 zm1 => J zx zm1)))) ∧
  (∀ (v0 v1 : Int32), wp_X8_cost v0 v1 zx (fun r1 zx1 => (wp_X9_cost v0 v1 zm (fun r2 zm1 => J zx1 zm1)))) ∧
  (∀ (v0 : Int32), wp_X8_saved v0 zx (fun r1 zx1 => (wp_X9_saved v0 zm (fun r2 zm1 => J zx1 zm1)))) ∧
  (∀ (v0 v1 v2 v3 v4 v5 v6 : Int32), wp_X8_store v0 v1 v2 v3 v4 v5 v6 zx (fun r1 zx1 => (wp_X9_store v0 v1 v2 v3 v4 v5 v6 zm (fun r2 zm1 => J zx1 zm1)))) ∧
  (∀ (v0 v1 : Int32), wp_X8_level v0 v1 zx (fun r1 zx1 => (wp_X9_level v0 v1 zm (fun r2 zm1 => J zx1 zm1)))) ∧
  (∀ (v0 v1 v2 : Int32), wp_X8_fill v0 v1 v2 zx (fun r1 zx1 => (wp_X9_fill v0 v1 v2 zm (fun r2 zm1 => J zx1 zm1)))) ∧
  (∀ (v0 v1 : Int32), wp_X8_filled v0 v1 zx (fun r1 => (wp_X9_filled v0 v1 zm (fun r2 zm1 => (r1 = r2 ∧ J zx zm1))))) ∧
  (∀ (v0 : Int32), wp_X8_count v0 zx (fun r1 => (wp_X9_count v0 zm (fun r2 zm1 => J zx zm1)))) ∧
  (wp_X8_status zx (fun r1 => (wp_X9_status zm (fun r2 zm1 => J zx zm1))))
set_option maxHeartbeats 8000000 in
set_option maxRecDepth 100000 in
theorem law_loop {p : Program} {l : Launch} {e : Env} {s : State} {m : MethodId} {below : List Frame} {meth : Method} {c : Code} {D : va_G} {t : Ty3} {b L : Nat} {xs : Nat → Int32} (J : St → St → Prop) (hJ0 : LawOk J) (hL : L ≤ 4608) (C0 : lw_At p s m meth c b L xs) :
    ∀ (n i : Nat), i ≤ L → L + 1 ≤ i + n → ∀ (a a2 : Nat → Nat) (zx zm : St) (H : Heap) (locs : List Loc) (ls : Array Slot), J zx zm → wd D t (fun q : Nat => s.heap.size ≤ q) s (wX t a zx ++ wM t a2 zm) H locs → lv_has ls 4 [(0, .ref b), (1, .ref (a 0)), (2, .ref (a2 0)), (3, .int (nI i))] → W p l e room_1 s m #[Value.ref b] below meth c H locs 92 12759 (lw_Z below #[Value.ref b] s) (F0 m 18 ls []) := by
  obtain ⟨hx, hb, hr, hml, hown, hts, hX, hbl, hlocks, hgv⟩ := C0
  have C : CallFix p m c code 4 s #[Value.ref b] lw_g R_law := ⟨hx, hb, hml, hown, fun w h => hts w (List.mem_filter.mp h).1⟩
  have hbA : ¬ (fun q : Nat => s.heap.size ≤ q) b := Nat.not_le.mpr hbl
  have hL2 : L < 2 ^ 31 := by omega
  intro n
  induction n with
  | zero => intro i h1 h2; exact absurd h2 (by omega)
  | succ n ih =>
    intro i hi hin a a2 zx zm H locs ls hj h hl
    refine lv_iload_n (pc := 18) C.1 C.2.1 dL_law_18 rfl (lv_at hl 3 rfl) ?_
    refine lv_aload_n (pc := 19) C.1 C.2.1 dL_law_19 rfl (lv_at hl 0 rfl) ?_
    refine va_slen (pc := 20) C.1 C.2.1 hX hbl hbA h.2.2.2.1 dL_law_20 ?_
    refine lv_bipush (v := 9) (pc := 21) C.1 C.2.1 dL_law_21 (by decide) ?_
    refine lv_isub (pc := 23) C.1 C.2.1 dL_law_23 ?_
    refine lv_icmp_gt (tgt := 1026) (pc := 24) C.1 C.2.1 dL_law_24 (by decide) (fun c1 => ?_) (fun c1 => ?_)
    · refine lv_iconst (v := 1) (pc := 1026) C.1 C.2.1 dL_law_1026 (by decide) ?_
      refine va_forget (fun q hq => h.2.2.2.1.2.2 q hq) ?_
      refine W.widen (k := 600000) (n := 7302250) (by decide) (by decide) ?_
      exact lw_ret hx hb hr hlocks dL_law_1027
    have hi9 : i + 9 ≤ L := s_head hi hL c1
    have back : ∀ (a a2 : Nat → Nat) (zx zm : St) (H : Heap) (locs : List Loc) (ls : Array Slot), J zx zm → wd D t (fun q : Nat => s.heap.size ≤ q) s (wX t a zx ++ wM t a2 zm) H locs → lv_has ls 4 [(0, .ref b), (1, .ref (a 0)), (2, .ref (a2 0)), (3, .int (nI i))] → W p l e room_1 s m #[Value.ref b] below meth c H locs 92 12759 (lw_Z below #[Value.ref b] s) (F0 m 1020 ls []) := by
      intro a a2 zx zm H locs ls hj h hl
      refine lv_iinc (v := nI (i + 9)) (lv' := [(3, .int (nI (i + 9))), (0, .ref b), (1, .ref (a 0)), (2, .ref (a2 0))]) (pc := 1020) C.1 C.2.1 dL_law_1020 hl (k := 3) rfl (by show nI i + nI 9 = nI (i + 9); exact nI_add i 9) (by decide) rfl (fun ls hl => ?_)
      refine lv_goto (tgt := 18) (pc := 1023) C.1 C.2.1 dL_law_1023 (by decide) ?_
      exact ih (i + 9) hi9 (by omega) a a2 zx zm H locs ls hj h (lv_sub hl [1, 2, 3, 0] rfl)
    have hq := hJ0 zx zm hj
    refine lv_aload_n (pc := 27) C.1 C.2.1 dL_law_27 rfl (lv_at hl 0 rfl) ?_
    refine lv_iload_n (pc := 28) C.1 C.2.1 dL_law_28 rfl (lv_at hl 3 rfl) ?_
    refine va_sld (pc := 29) C.1 C.2.1 hX hbl hbA h.2.2.2.1 (vp_in_nI (by omega) hL2) dL_law_29 ?_
    refine lv_bipush (v := 31) (pc := 30) C.1 C.2.1 dL_law_30 (by decide) ?_
    refine lv_iand (pc := 32) C.1 C.2.1 dL_law_32 ?_
    refine lv_topi (fun x ex => ?_)
    by_cases c_0 : x = 0
    · have hw := hq.1
      refine lv_tableIn (off := 119) (tgt := 152) (pc := 33) C.1 C.2.1 dL_law_33 (by rw [c_0]; decide) (by rw [c_0]; decide) (by rw [c_0]; rfl) (by decide) ?_
      refine lv_aload_n (pc := 152) C.1 C.2.1 dL_law_152 rfl (lv_at hl 1 rfl) ?_
      refine lv_aload_n (pc := 153) C.1 C.2.1 dL_law_153 rfl (lv_at hl 0 rfl) ?_
      refine lv_iload_n (pc := 154) C.1 C.2.1 dL_law_154 rfl (lv_at hl 3 rfl) ?_
      refine lv_iconst (v := 1) (pc := 155) C.1 C.2.1 dL_law_155 (by decide) ?_
      refine lv_iadd (pc := 156) C.1 C.2.1 dL_law_156 ?_
      refine va_sld (pc := 157) C.1 C.2.1 hX hbl hbA h.2.2.2.1 (s_in (k := 1) rfl (by omega) hL2) dL_law_157 ?_
      refine lv_aload_n (pc := 158) C.1 C.2.1 dL_law_158 rfl (lv_at hl 0 rfl) ?_
      refine lv_iload_n (pc := 159) C.1 C.2.1 dL_law_159 rfl (lv_at hl 3 rfl) ?_
      refine lv_iconst (v := 2) (pc := 160) C.1 C.2.1 dL_law_160 (by decide) ?_
      refine lv_iadd (pc := 161) C.1 C.2.1 dL_law_161 ?_
      refine va_sld (pc := 162) C.1 C.2.1 hX hbl hbA h.2.2.2.1 (s_in (k := 2) rfl (by omega) hL2) dL_law_162 ?_
      refine lv_aload_n (pc := 163) C.1 C.2.1 dL_law_163 rfl (lv_at hl 0 rfl) ?_
      refine lv_iload_n (pc := 164) C.1 C.2.1 dL_law_164 rfl (lv_at hl 3 rfl) ?_
      refine lv_iconst (v := 3) (pc := 165) C.1 C.2.1 dL_law_165 (by decide) ?_
      refine lv_iadd (pc := 166) C.1 C.2.1 dL_law_166 ?_
      refine va_sld (pc := 167) C.1 C.2.1 hX hbl hbA h.2.2.2.1 (s_in (k := 3) rfl (by omega) hL2) dL_law_167 ?_
      refine lc_i (pc := 168) (As := [.int (xs (nI i + 1).toNatClampNeg), .int (xs (nI i + 2).toNatClampNeg), .int (xs (nI i + 3).toNatClampNeg)]) (rest := []) C h (m_X8_price l D t a (xs (nI i + 1).toNatClampNeg) (xs (nI i + 2).toNatClampNeg) (xs (nI i + 3).toNatClampNeg) zx _ (hw (xs (nI i + 1).toNatClampNeg) (xs (nI i + 2).toNatClampNeg) (xs (nI i + 3).toNatClampNeg))) mw_X8_price lm_L_13 md_X8_price rcX_0 ⟨by decide, by decide⟩ ⟨by decide, by decide⟩ hl.1 rfl (Nat.le_of_ble_eq_true rfl) dL_law_168 (fun r1 zx1 H locs hw h => ?_)
      have h := wd_comm h
      refine lv_pop (pc := 171) C.1 C.2.1 dL_law_171 rfl ?_
      refine lv_aload_n (pc := 172) C.1 C.2.1 dL_law_172 rfl (lv_at hl 2 rfl) ?_
      refine lv_aload_n (pc := 173) C.1 C.2.1 dL_law_173 rfl (lv_at hl 0 rfl) ?_
      refine lv_iload_n (pc := 174) C.1 C.2.1 dL_law_174 rfl (lv_at hl 3 rfl) ?_
      refine lv_iconst (v := 1) (pc := 175) C.1 C.2.1 dL_law_175 (by decide) ?_
      refine lv_iadd (pc := 176) C.1 C.2.1 dL_law_176 ?_
      refine va_sld (pc := 177) C.1 C.2.1 hX hbl hbA h.2.2.2.1 (s_in (k := 1) rfl (by omega) hL2) dL_law_177 ?_
      refine lv_aload_n (pc := 178) C.1 C.2.1 dL_law_178 rfl (lv_at hl 0 rfl) ?_
      refine lv_iload_n (pc := 179) C.1 C.2.1 dL_law_179 rfl (lv_at hl 3 rfl) ?_
      refine lv_iconst (v := 2) (pc := 180) C.1 C.2.1 dL_law_180 (by decide) ?_
      refine lv_iadd (pc := 181) C.1 C.2.1 dL_law_181 ?_
      refine va_sld (pc := 182) C.1 C.2.1 hX hbl hbA h.2.2.2.1 (s_in (k := 2) rfl (by omega) hL2) dL_law_182 ?_
      refine lv_aload_n (pc := 183) C.1 C.2.1 dL_law_183 rfl (lv_at hl 0 rfl) ?_
      refine lv_iload_n (pc := 184) C.1 C.2.1 dL_law_184 rfl (lv_at hl 3 rfl) ?_
      refine lv_iconst (v := 3) (pc := 185) C.1 C.2.1 dL_law_185 (by decide) ?_
      refine lv_iadd (pc := 186) C.1 C.2.1 dL_law_186 ?_
      refine va_sld (pc := 187) C.1 C.2.1 hX hbl hbA h.2.2.2.1 (s_in (k := 3) rfl (by omega) hL2) dL_law_187 ?_
      refine lc_i (pc := 188) (As := [.int (xs (nI i + 1).toNatClampNeg), .int (xs (nI i + 2).toNatClampNeg), .int (xs (nI i + 3).toNatClampNeg)]) (rest := []) C h (m_X9_price l D t a2 (xs (nI i + 1).toNatClampNeg) (xs (nI i + 2).toNatClampNeg) (xs (nI i + 3).toNatClampNeg) zm _ hw) mw_X9_price lm_L_17 md_X9_price rcM_0 ⟨by decide, by decide⟩ ⟨by decide, by decide⟩ hl.1 rfl (Nat.le_of_ble_eq_true rfl) dL_law_188 (fun r2 zm1 H locs hw h => ?_)
      have h := wd_comm h
      refine lv_pop (pc := 191) C.1 C.2.1 dL_law_191 rfl ?_
      refine lv_goto (tgt := 1020) (pc := 192) C.1 C.2.1 dL_law_192 (by decide) ?_
      exact back _ _ _ _ _ _ _ hw h hl
    by_cases c_1 : x = 1
    · have hw := hq.2.1
      refine lv_tableIn (off := 162) (tgt := 195) (pc := 33) C.1 C.2.1 dL_law_33 (by rw [c_1]; decide) (by rw [c_1]; decide) (by rw [c_1]; rfl) (by decide) ?_
      refine lv_aload_n (pc := 195) C.1 C.2.1 dL_law_195 rfl (lv_at hl 1 rfl) ?_
      refine lv_aload_n (pc := 196) C.1 C.2.1 dL_law_196 rfl (lv_at hl 0 rfl) ?_
      refine lv_iload_n (pc := 197) C.1 C.2.1 dL_law_197 rfl (lv_at hl 3 rfl) ?_
      refine lv_iconst (v := 1) (pc := 198) C.1 C.2.1 dL_law_198 (by decide) ?_
      refine lv_iadd (pc := 199) C.1 C.2.1 dL_law_199 ?_
      refine va_sld (pc := 200) C.1 C.2.1 hX hbl hbA h.2.2.2.1 (s_in (k := 1) rfl (by omega) hL2) dL_law_200 ?_
      refine lc_i (pc := 201) (As := [.int (xs (nI i + 1).toNatClampNeg)]) (rest := []) C h (m_X8_plain l D t a (xs (nI i + 1).toNatClampNeg) zx _ (hw (xs (nI i + 1).toNatClampNeg))) mw_X8_plain lm_L_18 md_X8_plain rcX_0 ⟨by decide, by decide⟩ ⟨by decide, by decide⟩ hl.1 rfl (Nat.le_of_ble_eq_true rfl) dL_law_201 (fun r1 zx1 H locs hw h => ?_)
      have h := wd_comm h
      refine lv_pop (pc := 204) C.1 C.2.1 dL_law_204 rfl ?_
      refine lv_aload_n (pc := 205) C.1 C.2.1 dL_law_205 rfl (lv_at hl 2 rfl) ?_
      refine lv_aload_n (pc := 206) C.1 C.2.1 dL_law_206 rfl (lv_at hl 0 rfl) ?_
      refine lv_iload_n (pc := 207) C.1 C.2.1 dL_law_207 rfl (lv_at hl 3 rfl) ?_
      refine lv_iconst (v := 1) (pc := 208) C.1 C.2.1 dL_law_208 (by decide) ?_
      refine lv_iadd (pc := 209) C.1 C.2.1 dL_law_209 ?_
      refine va_sld (pc := 210) C.1 C.2.1 hX hbl hbA h.2.2.2.1 (s_in (k := 1) rfl (by omega) hL2) dL_law_210 ?_
      refine lc_i (pc := 211) (As := [.int (xs (nI i + 1).toNatClampNeg)]) (rest := []) C h (m_X9_plain l D t a2 (xs (nI i + 1).toNatClampNeg) zm _ hw) mw_X9_plain lm_L_22 md_X9_plain rcM_0 ⟨by decide, by decide⟩ ⟨by decide, by decide⟩ hl.1 rfl (Nat.le_of_ble_eq_true rfl) dL_law_211 (fun r2 zm1 H locs hw h => ?_)
      have h := wd_comm h
      refine lv_pop (pc := 214) C.1 C.2.1 dL_law_214 rfl ?_
      refine lv_goto (tgt := 1020) (pc := 215) C.1 C.2.1 dL_law_215 (by decide) ?_
      exact back _ _ _ _ _ _ _ hw h hl
    by_cases c_2 : x = 2
    · have hw := hq.2.2.1
      refine lv_tableIn (off := 185) (tgt := 218) (pc := 33) C.1 C.2.1 dL_law_33 (by rw [c_2]; decide) (by rw [c_2]; decide) (by rw [c_2]; rfl) (by decide) ?_
      refine lv_aload_n (pc := 218) C.1 C.2.1 dL_law_218 rfl (lv_at hl 1 rfl) ?_
      refine lv_aload_n (pc := 219) C.1 C.2.1 dL_law_219 rfl (lv_at hl 0 rfl) ?_
      refine lv_iload_n (pc := 220) C.1 C.2.1 dL_law_220 rfl (lv_at hl 3 rfl) ?_
      refine lv_iconst (v := 1) (pc := 221) C.1 C.2.1 dL_law_221 (by decide) ?_
      refine lv_iadd (pc := 222) C.1 C.2.1 dL_law_222 ?_
      refine va_sld (pc := 223) C.1 C.2.1 hX hbl hbA h.2.2.2.1 (s_in (k := 1) rfl (by omega) hL2) dL_law_223 ?_
      refine lv_aload_n (pc := 224) C.1 C.2.1 dL_law_224 rfl (lv_at hl 0 rfl) ?_
      refine lv_iload_n (pc := 225) C.1 C.2.1 dL_law_225 rfl (lv_at hl 3 rfl) ?_
      refine lv_iconst (v := 2) (pc := 226) C.1 C.2.1 dL_law_226 (by decide) ?_
      refine lv_iadd (pc := 227) C.1 C.2.1 dL_law_227 ?_
      refine va_sld (pc := 228) C.1 C.2.1 hX hbl hbA h.2.2.2.1 (s_in (k := 2) rfl (by omega) hL2) dL_law_228 ?_
      refine lc_i (pc := 229) (As := [.int (xs (nI i + 1).toNatClampNeg), .int (xs (nI i + 2).toNatClampNeg)]) (rest := []) C h (m_X8_at l D t a (xs (nI i + 1).toNatClampNeg) (xs (nI i + 2).toNatClampNeg) zx _ (hw (xs (nI i + 1).toNatClampNeg) (xs (nI i + 2).toNatClampNeg))) mw_X8_at lm_L_23 md_X8_at rcX_0 ⟨by decide, by decide⟩ ⟨by decide, by decide⟩ hl.1 rfl (Nat.le_of_ble_eq_true rfl) dL_law_229 (fun r1 zx1 H locs hw h => ?_)
      rw [hw.1] at h
      have hw := hw.2
      have h := wd_comm h
      refine lv_pop (pc := 232) C.1 C.2.1 dL_law_232 rfl ?_
      refine lv_aload_n (pc := 233) C.1 C.2.1 dL_law_233 rfl (lv_at hl 2 rfl) ?_
      refine lv_aload_n (pc := 234) C.1 C.2.1 dL_law_234 rfl (lv_at hl 0 rfl) ?_
      refine lv_iload_n (pc := 235) C.1 C.2.1 dL_law_235 rfl (lv_at hl 3 rfl) ?_
      refine lv_iconst (v := 1) (pc := 236) C.1 C.2.1 dL_law_236 (by decide) ?_
      refine lv_iadd (pc := 237) C.1 C.2.1 dL_law_237 ?_
      refine va_sld (pc := 238) C.1 C.2.1 hX hbl hbA h.2.2.2.1 (s_in (k := 1) rfl (by omega) hL2) dL_law_238 ?_
      refine lv_aload_n (pc := 239) C.1 C.2.1 dL_law_239 rfl (lv_at hl 0 rfl) ?_
      refine lv_iload_n (pc := 240) C.1 C.2.1 dL_law_240 rfl (lv_at hl 3 rfl) ?_
      refine lv_iconst (v := 2) (pc := 241) C.1 C.2.1 dL_law_241 (by decide) ?_
      refine lv_iadd (pc := 242) C.1 C.2.1 dL_law_242 ?_
      refine va_sld (pc := 243) C.1 C.2.1 hX hbl hbA h.2.2.2.1 (s_in (k := 2) rfl (by omega) hL2) dL_law_243 ?_
      refine lc_i (pc := 244) (As := [.int (xs (nI i + 1).toNatClampNeg), .int (xs (nI i + 2).toNatClampNeg)]) (rest := []) C h (m_X9_at l D t a2 (xs (nI i + 1).toNatClampNeg) (xs (nI i + 2).toNatClampNeg) zm _ hw) mw_X9_at lm_L_27 md_X9_at rcM_0 ⟨by decide, by decide⟩ ⟨by decide, by decide⟩ hl.1 rfl (Nat.le_of_ble_eq_true rfl) dL_law_244 (fun r2 zm1 H locs hw h => ?_)
      have h := wd_comm h
      refine lv_pop (pc := 247) C.1 C.2.1 dL_law_247 rfl ?_
      refine lv_goto (tgt := 1020) (pc := 248) C.1 C.2.1 dL_law_248 (by decide) ?_
      exact back _ _ _ _ _ _ _ hw h hl
    by_cases c_3 : x = 3
    · have hw := hq.2.2.2.1
      refine lv_tableIn (off := 218) (tgt := 251) (pc := 33) C.1 C.2.1 dL_law_33 (by rw [c_3]; decide) (by rw [c_3]; decide) (by rw [c_3]; rfl) (by decide) ?_
      refine lv_aload_n (pc := 251) C.1 C.2.1 dL_law_251 rfl (lv_at hl 1 rfl) ?_
      refine lv_aload_n (pc := 252) C.1 C.2.1 dL_law_252 rfl (lv_at hl 0 rfl) ?_
      refine lv_iload_n (pc := 253) C.1 C.2.1 dL_law_253 rfl (lv_at hl 3 rfl) ?_
      refine lv_iconst (v := 1) (pc := 254) C.1 C.2.1 dL_law_254 (by decide) ?_
      refine lv_iadd (pc := 255) C.1 C.2.1 dL_law_255 ?_
      refine va_sld (pc := 256) C.1 C.2.1 hX hbl hbA h.2.2.2.1 (s_in (k := 1) rfl (by omega) hL2) dL_law_256 ?_
      refine lc_i (pc := 257) (As := [.int (xs (nI i + 1).toNatClampNeg)]) (rest := []) C h (m_X8_home l D t a (xs (nI i + 1).toNatClampNeg) zx _ (hw (xs (nI i + 1).toNatClampNeg))) mw_X8_home lm_L_28 md_X8_home rcX_0 ⟨by decide, by decide⟩ ⟨by decide, by decide⟩ hl.1 rfl (Nat.le_of_ble_eq_true rfl) dL_law_257 (fun r1 zx1 H locs hw h => ?_)
      have h := wd_comm h
      refine lv_pop (pc := 260) C.1 C.2.1 dL_law_260 rfl ?_
      refine lv_aload_n (pc := 261) C.1 C.2.1 dL_law_261 rfl (lv_at hl 2 rfl) ?_
      refine lv_aload_n (pc := 262) C.1 C.2.1 dL_law_262 rfl (lv_at hl 0 rfl) ?_
      refine lv_iload_n (pc := 263) C.1 C.2.1 dL_law_263 rfl (lv_at hl 3 rfl) ?_
      refine lv_iconst (v := 1) (pc := 264) C.1 C.2.1 dL_law_264 (by decide) ?_
      refine lv_iadd (pc := 265) C.1 C.2.1 dL_law_265 ?_
      refine va_sld (pc := 266) C.1 C.2.1 hX hbl hbA h.2.2.2.1 (s_in (k := 1) rfl (by omega) hL2) dL_law_266 ?_
      refine lc_i (pc := 267) (As := [.int (xs (nI i + 1).toNatClampNeg)]) (rest := []) C h (m_X9_home l D t a2 (xs (nI i + 1).toNatClampNeg) zm _ hw) mw_X9_home lm_L_31 md_X9_home rcM_0 ⟨by decide, by decide⟩ ⟨by decide, by decide⟩ hl.1 rfl (Nat.le_of_ble_eq_true rfl) dL_law_267 (fun r2 zm1 H locs hw h => ?_)
      have h := wd_comm h
      refine lv_pop (pc := 270) C.1 C.2.1 dL_law_270 rfl ?_
      refine lv_goto (tgt := 1020) (pc := 271) C.1 C.2.1 dL_law_271 (by decide) ?_
      exact back _ _ _ _ _ _ _ hw h hl
    by_cases c_4 : x = 4
    · have hw := hq.2.2.2.2.1
      refine lv_tableIn (off := 241) (tgt := 274) (pc := 33) C.1 C.2.1 dL_law_33 (by rw [c_4]; decide) (by rw [c_4]; decide) (by rw [c_4]; rfl) (by decide) ?_
      refine lv_aload_n (pc := 274) C.1 C.2.1 dL_law_274 rfl (lv_at hl 1 rfl) ?_
      refine lv_aload_n (pc := 275) C.1 C.2.1 dL_law_275 rfl (lv_at hl 0 rfl) ?_
      refine lv_iload_n (pc := 276) C.1 C.2.1 dL_law_276 rfl (lv_at hl 3 rfl) ?_
      refine lv_iconst (v := 1) (pc := 277) C.1 C.2.1 dL_law_277 (by decide) ?_
      refine lv_iadd (pc := 278) C.1 C.2.1 dL_law_278 ?_
      refine va_sld (pc := 279) C.1 C.2.1 hX hbl hbA h.2.2.2.1 (s_in (k := 1) rfl (by omega) hL2) dL_law_279 ?_
      refine lv_aload_n (pc := 280) C.1 C.2.1 dL_law_280 rfl (lv_at hl 0 rfl) ?_
      refine lv_iload_n (pc := 281) C.1 C.2.1 dL_law_281 rfl (lv_at hl 3 rfl) ?_
      refine lv_iconst (v := 2) (pc := 282) C.1 C.2.1 dL_law_282 (by decide) ?_
      refine lv_iadd (pc := 283) C.1 C.2.1 dL_law_283 ?_
      refine va_sld (pc := 284) C.1 C.2.1 hX hbl hbA h.2.2.2.1 (s_in (k := 2) rfl (by omega) hL2) dL_law_284 ?_
      refine lv_aload_n (pc := 285) C.1 C.2.1 dL_law_285 rfl (lv_at hl 0 rfl) ?_
      refine lv_iload_n (pc := 286) C.1 C.2.1 dL_law_286 rfl (lv_at hl 3 rfl) ?_
      refine lv_iconst (v := 3) (pc := 287) C.1 C.2.1 dL_law_287 (by decide) ?_
      refine lv_iadd (pc := 288) C.1 C.2.1 dL_law_288 ?_
      refine va_sld (pc := 289) C.1 C.2.1 hX hbl hbA h.2.2.2.1 (s_in (k := 3) rfl (by omega) hL2) dL_law_289 ?_
      refine lc_i (pc := 290) (As := [.int (xs (nI i + 1).toNatClampNeg), .int (xs (nI i + 2).toNatClampNeg), .int (xs (nI i + 3).toNatClampNeg)]) (rest := []) C h (m_X8_base l D t a (xs (nI i + 1).toNatClampNeg) (xs (nI i + 2).toNatClampNeg) (xs (nI i + 3).toNatClampNeg) zx _ (hw (xs (nI i + 1).toNatClampNeg) (xs (nI i + 2).toNatClampNeg) (xs (nI i + 3).toNatClampNeg))) mw_X8_base lm_L_32 md_X8_base rcX_0 ⟨by decide, by decide⟩ ⟨by decide, by decide⟩ hl.1 rfl (Nat.le_of_ble_eq_true rfl) dL_law_290 (fun r1 zx1 H locs hw h => ?_)
      have h := wd_comm h
      refine lv_pop (pc := 293) C.1 C.2.1 dL_law_293 rfl ?_
      refine lv_aload_n (pc := 294) C.1 C.2.1 dL_law_294 rfl (lv_at hl 2 rfl) ?_
      refine lv_aload_n (pc := 295) C.1 C.2.1 dL_law_295 rfl (lv_at hl 0 rfl) ?_
      refine lv_iload_n (pc := 296) C.1 C.2.1 dL_law_296 rfl (lv_at hl 3 rfl) ?_
      refine lv_iconst (v := 1) (pc := 297) C.1 C.2.1 dL_law_297 (by decide) ?_
      refine lv_iadd (pc := 298) C.1 C.2.1 dL_law_298 ?_
      refine va_sld (pc := 299) C.1 C.2.1 hX hbl hbA h.2.2.2.1 (s_in (k := 1) rfl (by omega) hL2) dL_law_299 ?_
      refine lv_aload_n (pc := 300) C.1 C.2.1 dL_law_300 rfl (lv_at hl 0 rfl) ?_
      refine lv_iload_n (pc := 301) C.1 C.2.1 dL_law_301 rfl (lv_at hl 3 rfl) ?_
      refine lv_iconst (v := 2) (pc := 302) C.1 C.2.1 dL_law_302 (by decide) ?_
      refine lv_iadd (pc := 303) C.1 C.2.1 dL_law_303 ?_
      refine va_sld (pc := 304) C.1 C.2.1 hX hbl hbA h.2.2.2.1 (s_in (k := 2) rfl (by omega) hL2) dL_law_304 ?_
      refine lv_aload_n (pc := 305) C.1 C.2.1 dL_law_305 rfl (lv_at hl 0 rfl) ?_
      refine lv_iload_n (pc := 306) C.1 C.2.1 dL_law_306 rfl (lv_at hl 3 rfl) ?_
      refine lv_iconst (v := 3) (pc := 307) C.1 C.2.1 dL_law_307 (by decide) ?_
      refine lv_iadd (pc := 308) C.1 C.2.1 dL_law_308 ?_
      refine va_sld (pc := 309) C.1 C.2.1 hX hbl hbA h.2.2.2.1 (s_in (k := 3) rfl (by omega) hL2) dL_law_309 ?_
      refine lc_i (pc := 310) (As := [.int (xs (nI i + 1).toNatClampNeg), .int (xs (nI i + 2).toNatClampNeg), .int (xs (nI i + 3).toNatClampNeg)]) (rest := []) C h (m_X9_base l D t a2 (xs (nI i + 1).toNatClampNeg) (xs (nI i + 2).toNatClampNeg) (xs (nI i + 3).toNatClampNeg) zm _ hw) mw_X9_base lm_L_35 md_X9_base rcM_0 ⟨by decide, by decide⟩ ⟨by decide, by decide⟩ hl.1 rfl (Nat.le_of_ble_eq_true rfl) dL_law_310 (fun r2 zm1 H locs hw h => ?_)
      have h := wd_comm h
      refine lv_pop (pc := 313) C.1 C.2.1 dL_law_313 rfl ?_
      refine lv_goto (tgt := 1020) (pc := 314) C.1 C.2.1 dL_law_314 (by decide) ?_
      exact back _ _ _ _ _ _ _ hw h hl
    by_cases c_5 : x = 5
    · have hw := hq.2.2.2.2.2.1
      refine lv_tableIn (off := 284) (tgt := 317) (pc := 33) C.1 C.2.1 dL_law_33 (by rw [c_5]; decide) (by rw [c_5]; decide) (by rw [c_5]; rfl) (by decide) ?_
      refine lv_aload_n (pc := 317) C.1 C.2.1 dL_law_317 rfl (lv_at hl 1 rfl) ?_
      refine lv_aload_n (pc := 318) C.1 C.2.1 dL_law_318 rfl (lv_at hl 0 rfl) ?_
      refine lv_iload_n (pc := 319) C.1 C.2.1 dL_law_319 rfl (lv_at hl 3 rfl) ?_
      refine lv_iconst (v := 1) (pc := 320) C.1 C.2.1 dL_law_320 (by decide) ?_
      refine lv_iadd (pc := 321) C.1 C.2.1 dL_law_321 ?_
      refine va_sld (pc := 322) C.1 C.2.1 hX hbl hbA h.2.2.2.1 (s_in (k := 1) rfl (by omega) hL2) dL_law_322 ?_
      refine lc_i (pc := 323) (As := [.int (xs (nI i + 1).toNatClampNeg)]) (rest := []) C h (m_X8_cable l D t a (xs (nI i + 1).toNatClampNeg) zx _ (hw (xs (nI i + 1).toNatClampNeg))) mw_X8_cable lm_L_36 md_X8_cable rcX_0 ⟨by decide, by decide⟩ ⟨by decide, by decide⟩ hl.1 rfl (Nat.le_of_ble_eq_true rfl) dL_law_323 (fun r1 zx1 H locs hw h => ?_)
      have h := wd_comm h
      refine lv_pop (pc := 326) C.1 C.2.1 dL_law_326 rfl ?_
      refine lv_aload_n (pc := 327) C.1 C.2.1 dL_law_327 rfl (lv_at hl 2 rfl) ?_
      refine lv_aload_n (pc := 328) C.1 C.2.1 dL_law_328 rfl (lv_at hl 0 rfl) ?_
      refine lv_iload_n (pc := 329) C.1 C.2.1 dL_law_329 rfl (lv_at hl 3 rfl) ?_
      refine lv_iconst (v := 1) (pc := 330) C.1 C.2.1 dL_law_330 (by decide) ?_
      refine lv_iadd (pc := 331) C.1 C.2.1 dL_law_331 ?_
      refine va_sld (pc := 332) C.1 C.2.1 hX hbl hbA h.2.2.2.1 (s_in (k := 1) rfl (by omega) hL2) dL_law_332 ?_
      refine lc_i (pc := 333) (As := [.int (xs (nI i + 1).toNatClampNeg)]) (rest := []) C h (m_X9_cable l D t a2 (xs (nI i + 1).toNatClampNeg) zm _ hw) mw_X9_cable lm_L_39 md_X9_cable rcM_0 ⟨by decide, by decide⟩ ⟨by decide, by decide⟩ hl.1 rfl (Nat.le_of_ble_eq_true rfl) dL_law_333 (fun r2 zm1 H locs hw h => ?_)
      have h := wd_comm h
      refine lv_pop (pc := 336) C.1 C.2.1 dL_law_336 rfl ?_
      refine lv_goto (tgt := 1020) (pc := 337) C.1 C.2.1 dL_law_337 (by decide) ?_
      exact back _ _ _ _ _ _ _ hw h hl
    by_cases c_6 : x = 6
    · have hw := hq.2.2.2.2.2.2.1
      refine lv_tableIn (off := 307) (tgt := 340) (pc := 33) C.1 C.2.1 dL_law_33 (by rw [c_6]; decide) (by rw [c_6]; decide) (by rw [c_6]; rfl) (by decide) ?_
      refine lv_aload_n (pc := 340) C.1 C.2.1 dL_law_340 rfl (lv_at hl 1 rfl) ?_
      refine lv_aload_n (pc := 341) C.1 C.2.1 dL_law_341 rfl (lv_at hl 0 rfl) ?_
      refine lv_iload_n (pc := 342) C.1 C.2.1 dL_law_342 rfl (lv_at hl 3 rfl) ?_
      refine lv_iconst (v := 1) (pc := 343) C.1 C.2.1 dL_law_343 (by decide) ?_
      refine lv_iadd (pc := 344) C.1 C.2.1 dL_law_344 ?_
      refine va_sld (pc := 345) C.1 C.2.1 hX hbl hbA h.2.2.2.1 (s_in (k := 1) rfl (by omega) hL2) dL_law_345 ?_
      refine lv_aload_n (pc := 346) C.1 C.2.1 dL_law_346 rfl (lv_at hl 0 rfl) ?_
      refine lv_iload_n (pc := 347) C.1 C.2.1 dL_law_347 rfl (lv_at hl 3 rfl) ?_
      refine lv_iconst (v := 2) (pc := 348) C.1 C.2.1 dL_law_348 (by decide) ?_
      refine lv_iadd (pc := 349) C.1 C.2.1 dL_law_349 ?_
      refine va_sld (pc := 350) C.1 C.2.1 hX hbl hbA h.2.2.2.1 (s_in (k := 2) rfl (by omega) hL2) dL_law_350 ?_
      refine lv_aload_n (pc := 351) C.1 C.2.1 dL_law_351 rfl (lv_at hl 0 rfl) ?_
      refine lv_iload_n (pc := 352) C.1 C.2.1 dL_law_352 rfl (lv_at hl 3 rfl) ?_
      refine lv_iconst (v := 3) (pc := 353) C.1 C.2.1 dL_law_353 (by decide) ?_
      refine lv_iadd (pc := 354) C.1 C.2.1 dL_law_354 ?_
      refine va_sld (pc := 355) C.1 C.2.1 hX hbl hbA h.2.2.2.1 (s_in (k := 3) rfl (by omega) hL2) dL_law_355 ?_
      refine lv_aload_n (pc := 356) C.1 C.2.1 dL_law_356 rfl (lv_at hl 0 rfl) ?_
      refine lv_iload_n (pc := 357) C.1 C.2.1 dL_law_357 rfl (lv_at hl 3 rfl) ?_
      refine lv_iconst (v := 4) (pc := 358) C.1 C.2.1 dL_law_358 (by decide) ?_
      refine lv_iadd (pc := 359) C.1 C.2.1 dL_law_359 ?_
      refine va_sld (pc := 360) C.1 C.2.1 hX hbl hbA h.2.2.2.1 (s_in (k := 4) rfl (by omega) hL2) dL_law_360 ?_
      refine lv_aload_n (pc := 361) C.1 C.2.1 dL_law_361 rfl (lv_at hl 0 rfl) ?_
      refine lv_iload_n (pc := 362) C.1 C.2.1 dL_law_362 rfl (lv_at hl 3 rfl) ?_
      refine lv_iconst (v := 5) (pc := 363) C.1 C.2.1 dL_law_363 (by decide) ?_
      refine lv_iadd (pc := 364) C.1 C.2.1 dL_law_364 ?_
      refine va_sld (pc := 365) C.1 C.2.1 hX hbl hbA h.2.2.2.1 (s_in (k := 5) rfl (by omega) hL2) dL_law_365 ?_
      refine lv_aload_n (pc := 366) C.1 C.2.1 dL_law_366 rfl (lv_at hl 0 rfl) ?_
      refine lv_iload_n (pc := 367) C.1 C.2.1 dL_law_367 rfl (lv_at hl 3 rfl) ?_
      refine lv_bipush (v := 6) (pc := 368) C.1 C.2.1 dL_law_368 (by decide) ?_
      refine lv_iadd (pc := 370) C.1 C.2.1 dL_law_370 ?_
      refine va_sld (pc := 371) C.1 C.2.1 hX hbl hbA h.2.2.2.1 (s_in (k := 6) rfl (by omega) hL2) dL_law_371 ?_
      refine lv_aload_n (pc := 372) C.1 C.2.1 dL_law_372 rfl (lv_at hl 0 rfl) ?_
      refine lv_iload_n (pc := 373) C.1 C.2.1 dL_law_373 rfl (lv_at hl 3 rfl) ?_
      refine lv_bipush (v := 7) (pc := 374) C.1 C.2.1 dL_law_374 (by decide) ?_
      refine lv_iadd (pc := 376) C.1 C.2.1 dL_law_376 ?_
      refine va_sld (pc := 377) C.1 C.2.1 hX hbl hbA h.2.2.2.1 (s_in (k := 7) rfl (by omega) hL2) dL_law_377 ?_
      refine lv_aload_n (pc := 378) C.1 C.2.1 dL_law_378 rfl (lv_at hl 0 rfl) ?_
      refine lv_iload_n (pc := 379) C.1 C.2.1 dL_law_379 rfl (lv_at hl 3 rfl) ?_
      refine lv_bipush (v := 8) (pc := 380) C.1 C.2.1 dL_law_380 (by decide) ?_
      refine lv_iadd (pc := 382) C.1 C.2.1 dL_law_382 ?_
      refine va_sld (pc := 383) C.1 C.2.1 hX hbl hbA h.2.2.2.1 (s_in (k := 8) rfl (by omega) hL2) dL_law_383 ?_
      refine lc_i (pc := 384) (As := [.int (xs (nI i + 1).toNatClampNeg), .int (xs (nI i + 2).toNatClampNeg), .int (xs (nI i + 3).toNatClampNeg), .int (xs (nI i + 4).toNatClampNeg), .int (xs (nI i + 5).toNatClampNeg), .int (xs (nI i + 6).toNatClampNeg), .int (xs (nI i + 7).toNatClampNeg), .int (xs (nI i + 8).toNatClampNeg)]) (rest := []) C h (m_X8_job l D t a (xs (nI i + 1).toNatClampNeg) (xs (nI i + 2).toNatClampNeg) (xs (nI i + 3).toNatClampNeg) (xs (nI i + 4).toNatClampNeg) (xs (nI i + 5).toNatClampNeg) (xs (nI i + 6).toNatClampNeg) (xs (nI i + 7).toNatClampNeg) (xs (nI i + 8).toNatClampNeg) zx _ (hw (xs (nI i + 1).toNatClampNeg) (xs (nI i + 2).toNatClampNeg) (xs (nI i + 3).toNatClampNeg) (xs (nI i + 4).toNatClampNeg) (xs (nI i + 5).toNatClampNeg) (xs (nI i + 6).toNatClampNeg) (xs (nI i + 7).toNatClampNeg) (xs (nI i + 8).toNatClampNeg))) mw_X8_job lm_L_40 md_X8_job rcX_0 ⟨by decide, by decide⟩ ⟨by decide, by decide⟩ hl.1 rfl (Nat.le_of_ble_eq_true rfl) dL_law_384 (fun r1 zx1 H locs hw h => ?_)
      have h := wd_comm h
      refine lv_pop (pc := 387) C.1 C.2.1 dL_law_387 rfl ?_
      refine lv_aload_n (pc := 388) C.1 C.2.1 dL_law_388 rfl (lv_at hl 2 rfl) ?_
      refine lv_aload_n (pc := 389) C.1 C.2.1 dL_law_389 rfl (lv_at hl 0 rfl) ?_
      refine lv_iload_n (pc := 390) C.1 C.2.1 dL_law_390 rfl (lv_at hl 3 rfl) ?_
      refine lv_iconst (v := 1) (pc := 391) C.1 C.2.1 dL_law_391 (by decide) ?_
      refine lv_iadd (pc := 392) C.1 C.2.1 dL_law_392 ?_
      refine va_sld (pc := 393) C.1 C.2.1 hX hbl hbA h.2.2.2.1 (s_in (k := 1) rfl (by omega) hL2) dL_law_393 ?_
      refine lv_aload_n (pc := 394) C.1 C.2.1 dL_law_394 rfl (lv_at hl 0 rfl) ?_
      refine lv_iload_n (pc := 395) C.1 C.2.1 dL_law_395 rfl (lv_at hl 3 rfl) ?_
      refine lv_iconst (v := 2) (pc := 396) C.1 C.2.1 dL_law_396 (by decide) ?_
      refine lv_iadd (pc := 397) C.1 C.2.1 dL_law_397 ?_
      refine va_sld (pc := 398) C.1 C.2.1 hX hbl hbA h.2.2.2.1 (s_in (k := 2) rfl (by omega) hL2) dL_law_398 ?_
      refine lv_aload_n (pc := 399) C.1 C.2.1 dL_law_399 rfl (lv_at hl 0 rfl) ?_
      refine lv_iload_n (pc := 400) C.1 C.2.1 dL_law_400 rfl (lv_at hl 3 rfl) ?_
      refine lv_iconst (v := 3) (pc := 401) C.1 C.2.1 dL_law_401 (by decide) ?_
      refine lv_iadd (pc := 402) C.1 C.2.1 dL_law_402 ?_
      refine va_sld (pc := 403) C.1 C.2.1 hX hbl hbA h.2.2.2.1 (s_in (k := 3) rfl (by omega) hL2) dL_law_403 ?_
      refine lv_aload_n (pc := 404) C.1 C.2.1 dL_law_404 rfl (lv_at hl 0 rfl) ?_
      refine lv_iload_n (pc := 405) C.1 C.2.1 dL_law_405 rfl (lv_at hl 3 rfl) ?_
      refine lv_iconst (v := 4) (pc := 406) C.1 C.2.1 dL_law_406 (by decide) ?_
      refine lv_iadd (pc := 407) C.1 C.2.1 dL_law_407 ?_
      refine va_sld (pc := 408) C.1 C.2.1 hX hbl hbA h.2.2.2.1 (s_in (k := 4) rfl (by omega) hL2) dL_law_408 ?_
      refine lv_aload_n (pc := 409) C.1 C.2.1 dL_law_409 rfl (lv_at hl 0 rfl) ?_
      refine lv_iload_n (pc := 410) C.1 C.2.1 dL_law_410 rfl (lv_at hl 3 rfl) ?_
      refine lv_iconst (v := 5) (pc := 411) C.1 C.2.1 dL_law_411 (by decide) ?_
      refine lv_iadd (pc := 412) C.1 C.2.1 dL_law_412 ?_
      refine va_sld (pc := 413) C.1 C.2.1 hX hbl hbA h.2.2.2.1 (s_in (k := 5) rfl (by omega) hL2) dL_law_413 ?_
      refine lv_aload_n (pc := 414) C.1 C.2.1 dL_law_414 rfl (lv_at hl 0 rfl) ?_
      refine lv_iload_n (pc := 415) C.1 C.2.1 dL_law_415 rfl (lv_at hl 3 rfl) ?_
      refine lv_bipush (v := 6) (pc := 416) C.1 C.2.1 dL_law_416 (by decide) ?_
      refine lv_iadd (pc := 418) C.1 C.2.1 dL_law_418 ?_
      refine va_sld (pc := 419) C.1 C.2.1 hX hbl hbA h.2.2.2.1 (s_in (k := 6) rfl (by omega) hL2) dL_law_419 ?_
      refine lv_aload_n (pc := 420) C.1 C.2.1 dL_law_420 rfl (lv_at hl 0 rfl) ?_
      refine lv_iload_n (pc := 421) C.1 C.2.1 dL_law_421 rfl (lv_at hl 3 rfl) ?_
      refine lv_bipush (v := 7) (pc := 422) C.1 C.2.1 dL_law_422 (by decide) ?_
      refine lv_iadd (pc := 424) C.1 C.2.1 dL_law_424 ?_
      refine va_sld (pc := 425) C.1 C.2.1 hX hbl hbA h.2.2.2.1 (s_in (k := 7) rfl (by omega) hL2) dL_law_425 ?_
      refine lv_aload_n (pc := 426) C.1 C.2.1 dL_law_426 rfl (lv_at hl 0 rfl) ?_
      refine lv_iload_n (pc := 427) C.1 C.2.1 dL_law_427 rfl (lv_at hl 3 rfl) ?_
      refine lv_bipush (v := 8) (pc := 428) C.1 C.2.1 dL_law_428 (by decide) ?_
      refine lv_iadd (pc := 430) C.1 C.2.1 dL_law_430 ?_
      refine va_sld (pc := 431) C.1 C.2.1 hX hbl hbA h.2.2.2.1 (s_in (k := 8) rfl (by omega) hL2) dL_law_431 ?_
      refine lc_i (pc := 432) (As := [.int (xs (nI i + 1).toNatClampNeg), .int (xs (nI i + 2).toNatClampNeg), .int (xs (nI i + 3).toNatClampNeg), .int (xs (nI i + 4).toNatClampNeg), .int (xs (nI i + 5).toNatClampNeg), .int (xs (nI i + 6).toNatClampNeg), .int (xs (nI i + 7).toNatClampNeg), .int (xs (nI i + 8).toNatClampNeg)]) (rest := []) C h (m_X9_job l D t a2 (xs (nI i + 1).toNatClampNeg) (xs (nI i + 2).toNatClampNeg) (xs (nI i + 3).toNatClampNeg) (xs (nI i + 4).toNatClampNeg) (xs (nI i + 5).toNatClampNeg) (xs (nI i + 6).toNatClampNeg) (xs (nI i + 7).toNatClampNeg) (xs (nI i + 8).toNatClampNeg) zm _ hw) mw_X9_job lm_L_44 md_X9_job rcM_0 ⟨by decide, by decide⟩ ⟨by decide, by decide⟩ hl.1 rfl (Nat.le_of_ble_eq_true rfl) dL_law_432 (fun r2 zm1 H locs hw h => ?_)
      have h := wd_comm h
      refine lv_pop (pc := 435) C.1 C.2.1 dL_law_435 rfl ?_
      refine lv_goto (tgt := 1020) (pc := 436) C.1 C.2.1 dL_law_436 (by decide) ?_
      exact back _ _ _ _ _ _ _ hw h hl
    by_cases c_7 : x = 7
    · have hw := hq.2.2.2.2.2.2.2.1
      refine lv_tableIn (off := 406) (tgt := 439) (pc := 33) C.1 C.2.1 dL_law_33 (by rw [c_7]; decide) (by rw [c_7]; decide) (by rw [c_7]; rfl) (by decide) ?_
      refine lv_aload_n (pc := 439) C.1 C.2.1 dL_law_439 rfl (lv_at hl 1 rfl) ?_
      refine lv_aload_n (pc := 440) C.1 C.2.1 dL_law_440 rfl (lv_at hl 0 rfl) ?_
      refine lv_iload_n (pc := 441) C.1 C.2.1 dL_law_441 rfl (lv_at hl 3 rfl) ?_
      refine lv_iconst (v := 1) (pc := 442) C.1 C.2.1 dL_law_442 (by decide) ?_
      refine lv_iadd (pc := 443) C.1 C.2.1 dL_law_443 ?_
      refine va_sld (pc := 444) C.1 C.2.1 hX hbl hbA h.2.2.2.1 (s_in (k := 1) rfl (by omega) hL2) dL_law_444 ?_
      refine lv_aload_n (pc := 445) C.1 C.2.1 dL_law_445 rfl (lv_at hl 0 rfl) ?_
      refine lv_iload_n (pc := 446) C.1 C.2.1 dL_law_446 rfl (lv_at hl 3 rfl) ?_
      refine lv_iconst (v := 2) (pc := 447) C.1 C.2.1 dL_law_447 (by decide) ?_
      refine lv_iadd (pc := 448) C.1 C.2.1 dL_law_448 ?_
      refine va_sld (pc := 449) C.1 C.2.1 hX hbl hbA h.2.2.2.1 (s_in (k := 2) rfl (by omega) hL2) dL_law_449 ?_
      refine lc_i (pc := 450) (As := [.int (xs (nI i + 1).toNatClampNeg), .int (xs (nI i + 2).toNatClampNeg)]) (rest := []) C h (m_X8_of l D t a (xs (nI i + 1).toNatClampNeg) (xs (nI i + 2).toNatClampNeg) zx _ (hw (xs (nI i + 1).toNatClampNeg) (xs (nI i + 2).toNatClampNeg))) mw_X8_of lm_L_45 md_X8_of rcX_0 ⟨by decide, by decide⟩ ⟨by decide, by decide⟩ hl.1 rfl (Nat.le_of_ble_eq_true rfl) dL_law_450 (fun r1 zx1 H locs hw h => ?_)
      rw [hw.1] at h
      have hw := hw.2
      have h := wd_comm h
      refine lv_pop (pc := 453) C.1 C.2.1 dL_law_453 rfl ?_
      refine lv_aload_n (pc := 454) C.1 C.2.1 dL_law_454 rfl (lv_at hl 2 rfl) ?_
      refine lv_aload_n (pc := 455) C.1 C.2.1 dL_law_455 rfl (lv_at hl 0 rfl) ?_
      refine lv_iload_n (pc := 456) C.1 C.2.1 dL_law_456 rfl (lv_at hl 3 rfl) ?_
      refine lv_iconst (v := 1) (pc := 457) C.1 C.2.1 dL_law_457 (by decide) ?_
      refine lv_iadd (pc := 458) C.1 C.2.1 dL_law_458 ?_
      refine va_sld (pc := 459) C.1 C.2.1 hX hbl hbA h.2.2.2.1 (s_in (k := 1) rfl (by omega) hL2) dL_law_459 ?_
      refine lv_aload_n (pc := 460) C.1 C.2.1 dL_law_460 rfl (lv_at hl 0 rfl) ?_
      refine lv_iload_n (pc := 461) C.1 C.2.1 dL_law_461 rfl (lv_at hl 3 rfl) ?_
      refine lv_iconst (v := 2) (pc := 462) C.1 C.2.1 dL_law_462 (by decide) ?_
      refine lv_iadd (pc := 463) C.1 C.2.1 dL_law_463 ?_
      refine va_sld (pc := 464) C.1 C.2.1 hX hbl hbA h.2.2.2.1 (s_in (k := 2) rfl (by omega) hL2) dL_law_464 ?_
      refine lc_i (pc := 465) (As := [.int (xs (nI i + 1).toNatClampNeg), .int (xs (nI i + 2).toNatClampNeg)]) (rest := []) C h (m_X9_of l D t a2 (xs (nI i + 1).toNatClampNeg) (xs (nI i + 2).toNatClampNeg) zm _ hw) mw_X9_of lm_L_48 md_X9_of rcM_0 ⟨by decide, by decide⟩ ⟨by decide, by decide⟩ hl.1 rfl (Nat.le_of_ble_eq_true rfl) dL_law_465 (fun r2 zm1 H locs hw h => ?_)
      have h := wd_comm h
      refine lv_pop (pc := 468) C.1 C.2.1 dL_law_468 rfl ?_
      refine lv_goto (tgt := 1020) (pc := 469) C.1 C.2.1 dL_law_469 (by decide) ?_
      exact back _ _ _ _ _ _ _ hw h hl
    by_cases c_8 : x = 8
    · have hw := hq.2.2.2.2.2.2.2.2.1
      refine lv_tableIn (off := 439) (tgt := 472) (pc := 33) C.1 C.2.1 dL_law_33 (by rw [c_8]; decide) (by rw [c_8]; decide) (by rw [c_8]; rfl) (by decide) ?_
      refine lv_aload_n (pc := 472) C.1 C.2.1 dL_law_472 rfl (lv_at hl 1 rfl) ?_
      refine lv_aload_n (pc := 473) C.1 C.2.1 dL_law_473 rfl (lv_at hl 0 rfl) ?_
      refine lv_iload_n (pc := 474) C.1 C.2.1 dL_law_474 rfl (lv_at hl 3 rfl) ?_
      refine lv_iconst (v := 1) (pc := 475) C.1 C.2.1 dL_law_475 (by decide) ?_
      refine lv_iadd (pc := 476) C.1 C.2.1 dL_law_476 ?_
      refine va_sld (pc := 477) C.1 C.2.1 hX hbl hbA h.2.2.2.1 (s_in (k := 1) rfl (by omega) hL2) dL_law_477 ?_
      refine lv_aload_n (pc := 478) C.1 C.2.1 dL_law_478 rfl (lv_at hl 0 rfl) ?_
      refine lv_iload_n (pc := 479) C.1 C.2.1 dL_law_479 rfl (lv_at hl 3 rfl) ?_
      refine lv_iconst (v := 2) (pc := 480) C.1 C.2.1 dL_law_480 (by decide) ?_
      refine lv_iadd (pc := 481) C.1 C.2.1 dL_law_481 ?_
      refine va_sld (pc := 482) C.1 C.2.1 hX hbl hbA h.2.2.2.1 (s_in (k := 2) rfl (by omega) hL2) dL_law_482 ?_
      refine lc_i (pc := 483) (As := [.int (xs (nI i + 1).toNatClampNeg), .int (xs (nI i + 2).toNatClampNeg)]) (rest := []) C h (m_X8_may l D t a (xs (nI i + 1).toNatClampNeg) (xs (nI i + 2).toNatClampNeg) zx _ (hw (xs (nI i + 1).toNatClampNeg) (xs (nI i + 2).toNatClampNeg))) mw_X8_may lm_L_49 md_X8_may rcX_0 ⟨by decide, by decide⟩ ⟨by decide, by decide⟩ hl.1 rfl (Nat.le_of_ble_eq_true rfl) dL_law_483 (fun r1 zx1 H locs hw h => ?_)
      have h := wd_comm h
      refine lv_pop (pc := 486) C.1 C.2.1 dL_law_486 rfl ?_
      refine lv_aload_n (pc := 487) C.1 C.2.1 dL_law_487 rfl (lv_at hl 2 rfl) ?_
      refine lv_aload_n (pc := 488) C.1 C.2.1 dL_law_488 rfl (lv_at hl 0 rfl) ?_
      refine lv_iload_n (pc := 489) C.1 C.2.1 dL_law_489 rfl (lv_at hl 3 rfl) ?_
      refine lv_iconst (v := 1) (pc := 490) C.1 C.2.1 dL_law_490 (by decide) ?_
      refine lv_iadd (pc := 491) C.1 C.2.1 dL_law_491 ?_
      refine va_sld (pc := 492) C.1 C.2.1 hX hbl hbA h.2.2.2.1 (s_in (k := 1) rfl (by omega) hL2) dL_law_492 ?_
      refine lv_aload_n (pc := 493) C.1 C.2.1 dL_law_493 rfl (lv_at hl 0 rfl) ?_
      refine lv_iload_n (pc := 494) C.1 C.2.1 dL_law_494 rfl (lv_at hl 3 rfl) ?_
      refine lv_iconst (v := 2) (pc := 495) C.1 C.2.1 dL_law_495 (by decide) ?_
      refine lv_iadd (pc := 496) C.1 C.2.1 dL_law_496 ?_
      refine va_sld (pc := 497) C.1 C.2.1 hX hbl hbA h.2.2.2.1 (s_in (k := 2) rfl (by omega) hL2) dL_law_497 ?_
      refine lc_i (pc := 498) (As := [.int (xs (nI i + 1).toNatClampNeg), .int (xs (nI i + 2).toNatClampNeg)]) (rest := []) C h (m_X9_may l D t a2 (xs (nI i + 1).toNatClampNeg) (xs (nI i + 2).toNatClampNeg) zm _ hw) mw_X9_may lm_L_52 md_X9_may rcM_0 ⟨by decide, by decide⟩ ⟨by decide, by decide⟩ hl.1 rfl (Nat.le_of_ble_eq_true rfl) dL_law_498 (fun r2 zm1 H locs hw h => ?_)
      have h := wd_comm h
      refine lv_pop (pc := 501) C.1 C.2.1 dL_law_501 rfl ?_
      refine lv_goto (tgt := 1020) (pc := 502) C.1 C.2.1 dL_law_502 (by decide) ?_
      exact back _ _ _ _ _ _ _ hw h hl
    by_cases c_9 : x = 9
    · have hw := hq.2.2.2.2.2.2.2.2.2.1
      refine lv_tableIn (off := 472) (tgt := 505) (pc := 33) C.1 C.2.1 dL_law_33 (by rw [c_9]; decide) (by rw [c_9]; decide) (by rw [c_9]; rfl) (by decide) ?_
      refine lv_aload_n (pc := 505) C.1 C.2.1 dL_law_505 rfl (lv_at hl 1 rfl) ?_
      refine lv_aload_n (pc := 506) C.1 C.2.1 dL_law_506 rfl (lv_at hl 0 rfl) ?_
      refine lv_iload_n (pc := 507) C.1 C.2.1 dL_law_507 rfl (lv_at hl 3 rfl) ?_
      refine lv_iconst (v := 1) (pc := 508) C.1 C.2.1 dL_law_508 (by decide) ?_
      refine lv_iadd (pc := 509) C.1 C.2.1 dL_law_509 ?_
      refine va_sld (pc := 510) C.1 C.2.1 hX hbl hbA h.2.2.2.1 (s_in (k := 1) rfl (by omega) hL2) dL_law_510 ?_
      refine lv_aload_n (pc := 511) C.1 C.2.1 dL_law_511 rfl (lv_at hl 0 rfl) ?_
      refine lv_iload_n (pc := 512) C.1 C.2.1 dL_law_512 rfl (lv_at hl 3 rfl) ?_
      refine lv_iconst (v := 2) (pc := 513) C.1 C.2.1 dL_law_513 (by decide) ?_
      refine lv_iadd (pc := 514) C.1 C.2.1 dL_law_514 ?_
      refine va_sld (pc := 515) C.1 C.2.1 hX hbl hbA h.2.2.2.1 (s_in (k := 2) rfl (by omega) hL2) dL_law_515 ?_
      refine lc_i (pc := 516) (As := [.int (xs (nI i + 1).toNatClampNeg), .int (xs (nI i + 2).toNatClampNeg)]) (rest := []) C h (m_X8_put l D t a (xs (nI i + 1).toNatClampNeg) (xs (nI i + 2).toNatClampNeg) zx _ (hw (xs (nI i + 1).toNatClampNeg) (xs (nI i + 2).toNatClampNeg))) mw_X8_put lm_L_53 md_X8_put rcX_0 ⟨by decide, by decide⟩ ⟨by decide, by decide⟩ hl.1 rfl (Nat.le_of_ble_eq_true rfl) dL_law_516 (fun r1 zx1 H locs hw h => ?_)
      have h := wd_comm h
      refine lv_pop (pc := 519) C.1 C.2.1 dL_law_519 rfl ?_
      refine lv_aload_n (pc := 520) C.1 C.2.1 dL_law_520 rfl (lv_at hl 2 rfl) ?_
      refine lv_aload_n (pc := 521) C.1 C.2.1 dL_law_521 rfl (lv_at hl 0 rfl) ?_
      refine lv_iload_n (pc := 522) C.1 C.2.1 dL_law_522 rfl (lv_at hl 3 rfl) ?_
      refine lv_iconst (v := 1) (pc := 523) C.1 C.2.1 dL_law_523 (by decide) ?_
      refine lv_iadd (pc := 524) C.1 C.2.1 dL_law_524 ?_
      refine va_sld (pc := 525) C.1 C.2.1 hX hbl hbA h.2.2.2.1 (s_in (k := 1) rfl (by omega) hL2) dL_law_525 ?_
      refine lv_aload_n (pc := 526) C.1 C.2.1 dL_law_526 rfl (lv_at hl 0 rfl) ?_
      refine lv_iload_n (pc := 527) C.1 C.2.1 dL_law_527 rfl (lv_at hl 3 rfl) ?_
      refine lv_iconst (v := 2) (pc := 528) C.1 C.2.1 dL_law_528 (by decide) ?_
      refine lv_iadd (pc := 529) C.1 C.2.1 dL_law_529 ?_
      refine va_sld (pc := 530) C.1 C.2.1 hX hbl hbA h.2.2.2.1 (s_in (k := 2) rfl (by omega) hL2) dL_law_530 ?_
      refine lc_i (pc := 531) (As := [.int (xs (nI i + 1).toNatClampNeg), .int (xs (nI i + 2).toNatClampNeg)]) (rest := []) C h (m_X9_put l D t a2 (xs (nI i + 1).toNatClampNeg) (xs (nI i + 2).toNatClampNeg) zm _ hw) mw_X9_put lm_L_56 md_X9_put rcM_0 ⟨by decide, by decide⟩ ⟨by decide, by decide⟩ hl.1 rfl (Nat.le_of_ble_eq_true rfl) dL_law_531 (fun r2 zm1 H locs hw h => ?_)
      have h := wd_comm h
      refine lv_pop (pc := 534) C.1 C.2.1 dL_law_534 rfl ?_
      refine lv_goto (tgt := 1020) (pc := 535) C.1 C.2.1 dL_law_535 (by decide) ?_
      exact back _ _ _ _ _ _ _ hw h hl
    by_cases c_10 : x = 10
    · have hw := hq.2.2.2.2.2.2.2.2.2.2.1
      refine lv_tableIn (off := 505) (tgt := 538) (pc := 33) C.1 C.2.1 dL_law_33 (by rw [c_10]; decide) (by rw [c_10]; decide) (by rw [c_10]; rfl) (by decide) ?_
      refine lv_aload_n (pc := 538) C.1 C.2.1 dL_law_538 rfl (lv_at hl 1 rfl) ?_
      refine lc_l (pc := 539) (As := []) (rest := []) C h (m_X8_whole l D t a zx _ (hw )) mw_X8_whole lm_L_57 md_X8_whole rcX_0 ⟨by decide, by decide⟩ ⟨by decide, by decide⟩ hl.1 rfl (Nat.le_of_ble_eq_true rfl) dL_law_539 (fun r1 zx1 H locs hw h => ?_)
      have h := wd_comm h
      refine lv_pop2_2 (pc := 542) C.1 C.2.1 dL_law_542 rfl ?_
      refine lv_aload_n (pc := 543) C.1 C.2.1 dL_law_543 rfl (lv_at hl 2 rfl) ?_
      refine lc_l (pc := 544) (As := []) (rest := []) C h (m_X9_whole l D t a2 zm _ hw) mw_X9_whole lm_L_61 md_X9_whole rcM_0 ⟨by decide, by decide⟩ ⟨by decide, by decide⟩ hl.1 rfl (Nat.le_of_ble_eq_true rfl) dL_law_544 (fun r2 zm1 H locs hw h => ?_)
      have h := wd_comm h
      refine lv_pop2_2 (pc := 547) C.1 C.2.1 dL_law_547 rfl ?_
      refine lv_goto (tgt := 1020) (pc := 548) C.1 C.2.1 dL_law_548 (by decide) ?_
      exact back _ _ _ _ _ _ _ hw h hl
    by_cases c_11 : x = 11
    · have hw := hq.2.2.2.2.2.2.2.2.2.2.2.1
      refine lv_tableIn (off := 518) (tgt := 551) (pc := 33) C.1 C.2.1 dL_law_33 (by rw [c_11]; decide) (by rw [c_11]; decide) (by rw [c_11]; rfl) (by decide) ?_
      refine lv_aload_n (pc := 551) C.1 C.2.1 dL_law_551 rfl (lv_at hl 1 rfl) ?_
      refine lc_i (pc := 552) (As := []) (rest := []) C h (m_X8_each l D t a zx _ (hw )) mw_X8_each lm_L_62 md_X8_each rcX_0 ⟨by decide, by decide⟩ ⟨by decide, by decide⟩ hl.1 rfl (Nat.le_of_ble_eq_true rfl) dL_law_552 (fun r1 zx1 H locs hw h => ?_)
      have h := wd_comm h
      refine lv_pop (pc := 555) C.1 C.2.1 dL_law_555 rfl ?_
      refine lv_aload_n (pc := 556) C.1 C.2.1 dL_law_556 rfl (lv_at hl 2 rfl) ?_
      refine lc_i (pc := 557) (As := []) (rest := []) C h (m_X9_each l D t a2 zm _ hw) mw_X9_each lm_L_66 md_X9_each rcM_0 ⟨by decide, by decide⟩ ⟨by decide, by decide⟩ hl.1 rfl (Nat.le_of_ble_eq_true rfl) dL_law_557 (fun r2 zm1 H locs hw h => ?_)
      have h := wd_comm h
      refine lv_pop (pc := 560) C.1 C.2.1 dL_law_560 rfl ?_
      refine lv_goto (tgt := 1020) (pc := 561) C.1 C.2.1 dL_law_561 (by decide) ?_
      exact back _ _ _ _ _ _ _ hw h hl
    by_cases c_12 : x = 12
    · have hw := hq.2.2.2.2.2.2.2.2.2.2.2.2.1
      refine lv_tableIn (off := 531) (tgt := 564) (pc := 33) C.1 C.2.1 dL_law_33 (by rw [c_12]; decide) (by rw [c_12]; decide) (by rw [c_12]; rfl) (by decide) ?_
      refine lv_aload_n (pc := 564) C.1 C.2.1 dL_law_564 rfl (lv_at hl 1 rfl) ?_
      refine lv_aload_n (pc := 565) C.1 C.2.1 dL_law_565 rfl (lv_at hl 0 rfl) ?_
      refine lv_iload_n (pc := 566) C.1 C.2.1 dL_law_566 rfl (lv_at hl 3 rfl) ?_
      refine lv_iconst (v := 1) (pc := 567) C.1 C.2.1 dL_law_567 (by decide) ?_
      refine lv_iadd (pc := 568) C.1 C.2.1 dL_law_568 ?_
      refine va_sld (pc := 569) C.1 C.2.1 hX hbl hbA h.2.2.2.1 (s_in (k := 1) rfl (by omega) hL2) dL_law_569 ?_
      refine lv_aload_n (pc := 570) C.1 C.2.1 dL_law_570 rfl (lv_at hl 0 rfl) ?_
      refine lv_iload_n (pc := 571) C.1 C.2.1 dL_law_571 rfl (lv_at hl 3 rfl) ?_
      refine lv_iconst (v := 2) (pc := 572) C.1 C.2.1 dL_law_572 (by decide) ?_
      refine lv_iadd (pc := 573) C.1 C.2.1 dL_law_573 ?_
      refine va_sld (pc := 574) C.1 C.2.1 hX hbl hbA h.2.2.2.1 (s_in (k := 2) rfl (by omega) hL2) dL_law_574 ?_
      refine lv_aload_n (pc := 575) C.1 C.2.1 dL_law_575 rfl (lv_at hl 0 rfl) ?_
      refine lv_iload_n (pc := 576) C.1 C.2.1 dL_law_576 rfl (lv_at hl 3 rfl) ?_
      refine lv_iconst (v := 3) (pc := 577) C.1 C.2.1 dL_law_577 (by decide) ?_
      refine lv_iadd (pc := 578) C.1 C.2.1 dL_law_578 ?_
      refine va_sld (pc := 579) C.1 C.2.1 hX hbl hbA h.2.2.2.1 (s_in (k := 3) rfl (by omega) hL2) dL_law_579 ?_
      refine lv_aload_n (pc := 580) C.1 C.2.1 dL_law_580 rfl (lv_at hl 0 rfl) ?_
      refine lv_iload_n (pc := 581) C.1 C.2.1 dL_law_581 rfl (lv_at hl 3 rfl) ?_
      refine lv_iconst (v := 4) (pc := 582) C.1 C.2.1 dL_law_582 (by decide) ?_
      refine lv_iadd (pc := 583) C.1 C.2.1 dL_law_583 ?_
      refine va_sld (pc := 584) C.1 C.2.1 hX hbl hbA h.2.2.2.1 (s_in (k := 4) rfl (by omega) hL2) dL_law_584 ?_
      refine lv_aload_n (pc := 585) C.1 C.2.1 dL_law_585 rfl (lv_at hl 0 rfl) ?_
      refine lv_iload_n (pc := 586) C.1 C.2.1 dL_law_586 rfl (lv_at hl 3 rfl) ?_
      refine lv_iconst (v := 5) (pc := 587) C.1 C.2.1 dL_law_587 (by decide) ?_
      refine lv_iadd (pc := 588) C.1 C.2.1 dL_law_588 ?_
      refine va_sld (pc := 589) C.1 C.2.1 hX hbl hbA h.2.2.2.1 (s_in (k := 5) rfl (by omega) hL2) dL_law_589 ?_
      refine lc_i (pc := 590) (As := [.int (xs (nI i + 1).toNatClampNeg), .int (xs (nI i + 2).toNatClampNeg), .int (xs (nI i + 3).toNatClampNeg), .int (xs (nI i + 4).toNatClampNeg), .int (xs (nI i + 5).toNatClampNeg)]) (rest := []) C h (m_X8_feed l D t a (xs (nI i + 1).toNatClampNeg) (xs (nI i + 2).toNatClampNeg) (xs (nI i + 3).toNatClampNeg) (xs (nI i + 4).toNatClampNeg) (xs (nI i + 5).toNatClampNeg) zx _ (hw (xs (nI i + 1).toNatClampNeg) (xs (nI i + 2).toNatClampNeg) (xs (nI i + 3).toNatClampNeg) (xs (nI i + 4).toNatClampNeg) (xs (nI i + 5).toNatClampNeg))) mw_X8_feed lm_L_67 md_X8_feed rcX_0 ⟨by decide, by decide⟩ ⟨by decide, by decide⟩ hl.1 rfl (Nat.le_of_ble_eq_true rfl) dL_law_590 (fun r1 zx1 H locs hw h => ?_)
      have h := wd_comm h
      refine lv_pop (pc := 593) C.1 C.2.1 dL_law_593 rfl ?_
      refine lv_aload_n (pc := 594) C.1 C.2.1 dL_law_594 rfl (lv_at hl 2 rfl) ?_
      refine lv_aload_n (pc := 595) C.1 C.2.1 dL_law_595 rfl (lv_at hl 0 rfl) ?_
      refine lv_iload_n (pc := 596) C.1 C.2.1 dL_law_596 rfl (lv_at hl 3 rfl) ?_
      refine lv_iconst (v := 1) (pc := 597) C.1 C.2.1 dL_law_597 (by decide) ?_
      refine lv_iadd (pc := 598) C.1 C.2.1 dL_law_598 ?_
      refine va_sld (pc := 599) C.1 C.2.1 hX hbl hbA h.2.2.2.1 (s_in (k := 1) rfl (by omega) hL2) dL_law_599 ?_
      refine lv_aload_n (pc := 600) C.1 C.2.1 dL_law_600 rfl (lv_at hl 0 rfl) ?_
      refine lv_iload_n (pc := 601) C.1 C.2.1 dL_law_601 rfl (lv_at hl 3 rfl) ?_
      refine lv_iconst (v := 2) (pc := 602) C.1 C.2.1 dL_law_602 (by decide) ?_
      refine lv_iadd (pc := 603) C.1 C.2.1 dL_law_603 ?_
      refine va_sld (pc := 604) C.1 C.2.1 hX hbl hbA h.2.2.2.1 (s_in (k := 2) rfl (by omega) hL2) dL_law_604 ?_
      refine lv_aload_n (pc := 605) C.1 C.2.1 dL_law_605 rfl (lv_at hl 0 rfl) ?_
      refine lv_iload_n (pc := 606) C.1 C.2.1 dL_law_606 rfl (lv_at hl 3 rfl) ?_
      refine lv_iconst (v := 3) (pc := 607) C.1 C.2.1 dL_law_607 (by decide) ?_
      refine lv_iadd (pc := 608) C.1 C.2.1 dL_law_608 ?_
      refine va_sld (pc := 609) C.1 C.2.1 hX hbl hbA h.2.2.2.1 (s_in (k := 3) rfl (by omega) hL2) dL_law_609 ?_
      refine lv_aload_n (pc := 610) C.1 C.2.1 dL_law_610 rfl (lv_at hl 0 rfl) ?_
      refine lv_iload_n (pc := 611) C.1 C.2.1 dL_law_611 rfl (lv_at hl 3 rfl) ?_
      refine lv_iconst (v := 4) (pc := 612) C.1 C.2.1 dL_law_612 (by decide) ?_
      refine lv_iadd (pc := 613) C.1 C.2.1 dL_law_613 ?_
      refine va_sld (pc := 614) C.1 C.2.1 hX hbl hbA h.2.2.2.1 (s_in (k := 4) rfl (by omega) hL2) dL_law_614 ?_
      refine lv_aload_n (pc := 615) C.1 C.2.1 dL_law_615 rfl (lv_at hl 0 rfl) ?_
      refine lv_iload_n (pc := 616) C.1 C.2.1 dL_law_616 rfl (lv_at hl 3 rfl) ?_
      refine lv_iconst (v := 5) (pc := 617) C.1 C.2.1 dL_law_617 (by decide) ?_
      refine lv_iadd (pc := 618) C.1 C.2.1 dL_law_618 ?_
      refine va_sld (pc := 619) C.1 C.2.1 hX hbl hbA h.2.2.2.1 (s_in (k := 5) rfl (by omega) hL2) dL_law_619 ?_
      refine lc_i (pc := 620) (As := [.int (xs (nI i + 1).toNatClampNeg), .int (xs (nI i + 2).toNatClampNeg), .int (xs (nI i + 3).toNatClampNeg), .int (xs (nI i + 4).toNatClampNeg), .int (xs (nI i + 5).toNatClampNeg)]) (rest := []) C h (m_X9_feed l D t a2 (xs (nI i + 1).toNatClampNeg) (xs (nI i + 2).toNatClampNeg) (xs (nI i + 3).toNatClampNeg) (xs (nI i + 4).toNatClampNeg) (xs (nI i + 5).toNatClampNeg) zm _ hw) mw_X9_feed lm_L_71 md_X9_feed rcM_0 ⟨by decide, by decide⟩ ⟨by decide, by decide⟩ hl.1 rfl (Nat.le_of_ble_eq_true rfl) dL_law_620 (fun r2 zm1 H locs hw h => ?_)
      have h := wd_comm h
      refine lv_pop (pc := 623) C.1 C.2.1 dL_law_623 rfl ?_
      refine lv_goto (tgt := 1020) (pc := 624) C.1 C.2.1 dL_law_624 (by decide) ?_
      exact back _ _ _ _ _ _ _ hw h hl
    by_cases c_13 : x = 13
    · have hw := hq.2.2.2.2.2.2.2.2.2.2.2.2.2.1
      refine lv_tableIn (off := 594) (tgt := 627) (pc := 33) C.1 C.2.1 dL_law_33 (by rw [c_13]; decide) (by rw [c_13]; decide) (by rw [c_13]; rfl) (by decide) ?_
      refine lv_aload_n (pc := 627) C.1 C.2.1 dL_law_627 rfl (lv_at hl 1 rfl) ?_
      refine lv_aload_n (pc := 628) C.1 C.2.1 dL_law_628 rfl (lv_at hl 0 rfl) ?_
      refine lv_iload_n (pc := 629) C.1 C.2.1 dL_law_629 rfl (lv_at hl 3 rfl) ?_
      refine lv_iconst (v := 1) (pc := 630) C.1 C.2.1 dL_law_630 (by decide) ?_
      refine lv_iadd (pc := 631) C.1 C.2.1 dL_law_631 ?_
      refine va_sld (pc := 632) C.1 C.2.1 hX hbl hbA h.2.2.2.1 (s_in (k := 1) rfl (by omega) hL2) dL_law_632 ?_
      refine lc_i (pc := 633) (As := [.int (xs (nI i + 1).toNatClampNeg)]) (rest := []) C h (m_X8_end l D t a (xs (nI i + 1).toNatClampNeg) zx _ (hw (xs (nI i + 1).toNatClampNeg))) mw_X8_end lm_L_72 md_X8_end rcX_0 ⟨by decide, by decide⟩ ⟨by decide, by decide⟩ hl.1 rfl (Nat.le_of_ble_eq_true rfl) dL_law_633 (fun r1 zx1 H locs hw h => ?_)
      have h := wd_comm h
      refine lv_pop (pc := 636) C.1 C.2.1 dL_law_636 rfl ?_
      refine lv_aload_n (pc := 637) C.1 C.2.1 dL_law_637 rfl (lv_at hl 2 rfl) ?_
      refine lv_aload_n (pc := 638) C.1 C.2.1 dL_law_638 rfl (lv_at hl 0 rfl) ?_
      refine lv_iload_n (pc := 639) C.1 C.2.1 dL_law_639 rfl (lv_at hl 3 rfl) ?_
      refine lv_iconst (v := 1) (pc := 640) C.1 C.2.1 dL_law_640 (by decide) ?_
      refine lv_iadd (pc := 641) C.1 C.2.1 dL_law_641 ?_
      refine va_sld (pc := 642) C.1 C.2.1 hX hbl hbA h.2.2.2.1 (s_in (k := 1) rfl (by omega) hL2) dL_law_642 ?_
      refine lc_i (pc := 643) (As := [.int (xs (nI i + 1).toNatClampNeg)]) (rest := []) C h (m_X9_end l D t a2 (xs (nI i + 1).toNatClampNeg) zm _ hw) mw_X9_end lm_L_75 md_X9_end rcM_0 ⟨by decide, by decide⟩ ⟨by decide, by decide⟩ hl.1 rfl (Nat.le_of_ble_eq_true rfl) dL_law_643 (fun r2 zm1 H locs hw h => ?_)
      have h := wd_comm h
      refine lv_pop (pc := 646) C.1 C.2.1 dL_law_646 rfl ?_
      refine lv_goto (tgt := 1020) (pc := 647) C.1 C.2.1 dL_law_647 (by decide) ?_
      exact back _ _ _ _ _ _ _ hw h hl
    by_cases c_14 : x = 14
    · have hw := hq.2.2.2.2.2.2.2.2.2.2.2.2.2.2.1
      refine lv_tableIn (off := 617) (tgt := 650) (pc := 33) C.1 C.2.1 dL_law_33 (by rw [c_14]; decide) (by rw [c_14]; decide) (by rw [c_14]; rfl) (by decide) ?_
      refine lv_aload_n (pc := 650) C.1 C.2.1 dL_law_650 rfl (lv_at hl 1 rfl) ?_
      refine lc_i (pc := 651) (As := []) (rest := []) C h (m_X8_rules l D t a zx _ (hw a )) mw_X8_rules lm_L_76 md_X8_rules rcX_0 ⟨by decide, by decide⟩ ⟨by decide, by decide⟩ hl.1 rfl (Nat.le_of_ble_eq_true rfl) dL_law_651 (fun r1 u1 H locs hw h => ?_)
      obtain ⟨a1, zx1⟩ := u1
      have h := wd_comm h
      refine lv_pop (pc := 654) C.1 C.2.1 dL_law_654 rfl ?_
      refine lv_aload_n (pc := 655) C.1 C.2.1 dL_law_655 rfl (lv_at hl 2 rfl) ?_
      refine lc_i (pc := 656) (As := []) (rest := []) C h (m_X9_rules l D t a2 zm _ hw) mw_X9_rules lm_L_79 md_X9_rules rcM_0 ⟨by decide, by decide⟩ ⟨by decide, by decide⟩ hl.1 rfl (Nat.le_of_ble_eq_true rfl) dL_law_656 (fun r2 zm1 H locs hw h => ?_)
      have h := wd_comm h
      refine lv_pop (pc := 659) C.1 C.2.1 dL_law_659 rfl ?_
      refine lv_goto (tgt := 1020) (pc := 660) C.1 C.2.1 dL_law_660 (by decide) ?_
      have e9 : a1 0 = a 0 := hw.1
      have hl : lv_has ls 4 [(0, .ref b), (1, .ref (a1 0)), (2, .ref (a2 0)), (3, .int (nI i))] := by rw [e9]; exact hl
      exact back a1 a2 zx1 zm1 _ _ _ hw.2 h hl
    by_cases c_15 : x = 15
    · have hw := hq.2.2.2.2.2.2.2.2.2.2.2.2.2.2.2.1
      refine lv_tableIn (off := 630) (tgt := 663) (pc := 33) C.1 C.2.1 dL_law_33 (by rw [c_15]; decide) (by rw [c_15]; decide) (by rw [c_15]; rfl) (by decide) ?_
      refine lv_aload_n (pc := 663) C.1 C.2.1 dL_law_663 rfl (lv_at hl 1 rfl) ?_
      refine lc_i (pc := 664) (As := []) (rest := []) C h (m_X8_fault l D t a zx _ (hw )) mw_X8_fault lm_L_80 md_X8_fault rcX_0 ⟨by decide, by decide⟩ ⟨by decide, by decide⟩ hl.1 rfl (Nat.le_of_ble_eq_true rfl) dL_law_664 (fun r1 zx1 H locs hw h => ?_)
      rw [hw.1] at h
      have hw := hw.2
      have h := wd_comm h
      refine lv_pop (pc := 667) C.1 C.2.1 dL_law_667 rfl ?_
      refine lv_aload_n (pc := 668) C.1 C.2.1 dL_law_668 rfl (lv_at hl 2 rfl) ?_
      refine lc_i (pc := 669) (As := []) (rest := []) C h (m_X9_fault l D t a2 zm _ hw) mw_X9_fault lm_L_83 md_X9_fault rcM_0 ⟨by decide, by decide⟩ ⟨by decide, by decide⟩ hl.1 rfl (Nat.le_of_ble_eq_true rfl) dL_law_669 (fun r2 zm1 H locs hw h => ?_)
      have h := wd_comm h
      refine lv_pop (pc := 672) C.1 C.2.1 dL_law_672 rfl ?_
      refine lv_goto (tgt := 1020) (pc := 673) C.1 C.2.1 dL_law_673 (by decide) ?_
      exact back _ _ _ _ _ _ _ hw h hl
    by_cases c_16 : x = 16
    · have hw := hq.2.2.2.2.2.2.2.2.2.2.2.2.2.2.2.2.1
      refine lv_tableIn (off := 643) (tgt := 676) (pc := 33) C.1 C.2.1 dL_law_33 (by rw [c_16]; decide) (by rw [c_16]; decide) (by rw [c_16]; rfl) (by decide) ?_
      refine lv_aload_n (pc := 676) C.1 C.2.1 dL_law_676 rfl (lv_at hl 1 rfl) ?_
      refine lv_aload_n (pc := 677) C.1 C.2.1 dL_law_677 rfl (lv_at hl 0 rfl) ?_
      refine lv_iload_n (pc := 678) C.1 C.2.1 dL_law_678 rfl (lv_at hl 3 rfl) ?_
      refine lv_iconst (v := 1) (pc := 679) C.1 C.2.1 dL_law_679 (by decide) ?_
      refine lv_iadd (pc := 680) C.1 C.2.1 dL_law_680 ?_
      refine va_sld (pc := 681) C.1 C.2.1 hX hbl hbA h.2.2.2.1 (s_in (k := 1) rfl (by omega) hL2) dL_law_681 ?_
      refine lc_i (pc := 682) (As := [.int (xs (nI i + 1).toNatClampNeg)]) (rest := []) C h (m_X8_go l D t a (xs (nI i + 1).toNatClampNeg) zx _ (hw (xs (nI i + 1).toNatClampNeg))) mw_X8_go lm_L_84 md_X8_go rcX_0 ⟨by decide, by decide⟩ ⟨by decide, by decide⟩ hl.1 rfl (Nat.le_of_ble_eq_true rfl) dL_law_682 (fun r1 zx1 H locs hw h => ?_)
      have h := wd_comm h
      refine lv_pop (pc := 685) C.1 C.2.1 dL_law_685 rfl ?_
      refine lv_aload_n (pc := 686) C.1 C.2.1 dL_law_686 rfl (lv_at hl 2 rfl) ?_
      refine lv_aload_n (pc := 687) C.1 C.2.1 dL_law_687 rfl (lv_at hl 0 rfl) ?_
      refine lv_iload_n (pc := 688) C.1 C.2.1 dL_law_688 rfl (lv_at hl 3 rfl) ?_
      refine lv_iconst (v := 1) (pc := 689) C.1 C.2.1 dL_law_689 (by decide) ?_
      refine lv_iadd (pc := 690) C.1 C.2.1 dL_law_690 ?_
      refine va_sld (pc := 691) C.1 C.2.1 hX hbl hbA h.2.2.2.1 (s_in (k := 1) rfl (by omega) hL2) dL_law_691 ?_
      refine lc_i (pc := 692) (As := [.int (xs (nI i + 1).toNatClampNeg)]) (rest := []) C h (m_X9_go l D t a2 (xs (nI i + 1).toNatClampNeg) zm _ hw) mw_X9_go lm_L_87 md_X9_go rcM_0 ⟨by decide, by decide⟩ ⟨by decide, by decide⟩ hl.1 rfl (Nat.le_of_ble_eq_true rfl) dL_law_692 (fun r2 zm1 H locs hw h => ?_)
      have h := wd_comm h
      refine lv_pop (pc := 695) C.1 C.2.1 dL_law_695 rfl ?_
      refine lv_goto (tgt := 1020) (pc := 696) C.1 C.2.1 dL_law_696 (by decide) ?_
      exact back _ _ _ _ _ _ _ hw h hl
    by_cases c_17 : x = 17
    · have hw := hq.2.2.2.2.2.2.2.2.2.2.2.2.2.2.2.2.2.1
      refine lv_tableIn (off := 666) (tgt := 699) (pc := 33) C.1 C.2.1 dL_law_33 (by rw [c_17]; decide) (by rw [c_17]; decide) (by rw [c_17]; rfl) (by decide) ?_
      refine lv_aload_n (pc := 699) C.1 C.2.1 dL_law_699 rfl (lv_at hl 1 rfl) ?_
      refine lv_aload_n (pc := 700) C.1 C.2.1 dL_law_700 rfl (lv_at hl 0 rfl) ?_
      refine lv_iload_n (pc := 701) C.1 C.2.1 dL_law_701 rfl (lv_at hl 3 rfl) ?_
      refine lv_iconst (v := 1) (pc := 702) C.1 C.2.1 dL_law_702 (by decide) ?_
      refine lv_iadd (pc := 703) C.1 C.2.1 dL_law_703 ?_
      refine va_sld (pc := 704) C.1 C.2.1 hX hbl hbA h.2.2.2.1 (s_in (k := 1) rfl (by omega) hL2) dL_law_704 ?_
      refine lv_aload_n (pc := 705) C.1 C.2.1 dL_law_705 rfl (lv_at hl 0 rfl) ?_
      refine lv_iload_n (pc := 706) C.1 C.2.1 dL_law_706 rfl (lv_at hl 3 rfl) ?_
      refine lv_iconst (v := 2) (pc := 707) C.1 C.2.1 dL_law_707 (by decide) ?_
      refine lv_iadd (pc := 708) C.1 C.2.1 dL_law_708 ?_
      refine va_sld (pc := 709) C.1 C.2.1 hX hbl hbA h.2.2.2.1 (s_in (k := 2) rfl (by omega) hL2) dL_law_709 ?_
      refine lc_i (pc := 710) (As := [.int (xs (nI i + 1).toNatClampNeg), .int (xs (nI i + 2).toNatClampNeg)]) (rest := []) C h (m_X8_load l D t a (xs (nI i + 1).toNatClampNeg) (xs (nI i + 2).toNatClampNeg) zx _ (hw (xs (nI i + 1).toNatClampNeg) (xs (nI i + 2).toNatClampNeg))) mw_X8_load lm_L_88 md_X8_load rcX_0 ⟨by decide, by decide⟩ ⟨by decide, by decide⟩ hl.1 rfl (Nat.le_of_ble_eq_true rfl) dL_law_710 (fun r1 zx1 H locs hw h => ?_)
      rw [hw.1] at h
      have hw := hw.2
      have h := wd_comm h
      refine lv_pop (pc := 713) C.1 C.2.1 dL_law_713 rfl ?_
      refine lv_aload_n (pc := 714) C.1 C.2.1 dL_law_714 rfl (lv_at hl 2 rfl) ?_
      refine lv_aload_n (pc := 715) C.1 C.2.1 dL_law_715 rfl (lv_at hl 0 rfl) ?_
      refine lv_iload_n (pc := 716) C.1 C.2.1 dL_law_716 rfl (lv_at hl 3 rfl) ?_
      refine lv_iconst (v := 1) (pc := 717) C.1 C.2.1 dL_law_717 (by decide) ?_
      refine lv_iadd (pc := 718) C.1 C.2.1 dL_law_718 ?_
      refine va_sld (pc := 719) C.1 C.2.1 hX hbl hbA h.2.2.2.1 (s_in (k := 1) rfl (by omega) hL2) dL_law_719 ?_
      refine lv_aload_n (pc := 720) C.1 C.2.1 dL_law_720 rfl (lv_at hl 0 rfl) ?_
      refine lv_iload_n (pc := 721) C.1 C.2.1 dL_law_721 rfl (lv_at hl 3 rfl) ?_
      refine lv_iconst (v := 2) (pc := 722) C.1 C.2.1 dL_law_722 (by decide) ?_
      refine lv_iadd (pc := 723) C.1 C.2.1 dL_law_723 ?_
      refine va_sld (pc := 724) C.1 C.2.1 hX hbl hbA h.2.2.2.1 (s_in (k := 2) rfl (by omega) hL2) dL_law_724 ?_
      refine lc_i (pc := 725) (As := [.int (xs (nI i + 1).toNatClampNeg), .int (xs (nI i + 2).toNatClampNeg)]) (rest := []) C h (m_X9_load l D t a2 (xs (nI i + 1).toNatClampNeg) (xs (nI i + 2).toNatClampNeg) zm _ hw) mw_X9_load lm_L_91 md_X9_load rcM_0 ⟨by decide, by decide⟩ ⟨by decide, by decide⟩ hl.1 rfl (Nat.le_of_ble_eq_true rfl) dL_law_725 (fun r2 zm1 H locs hw h => ?_)
      have h := wd_comm h
      refine lv_pop (pc := 728) C.1 C.2.1 dL_law_728 rfl ?_
      refine lv_goto (tgt := 1020) (pc := 729) C.1 C.2.1 dL_law_729 (by decide) ?_
      exact back _ _ _ _ _ _ _ hw h hl
    by_cases c_18 : x = 18
    · have hw := hq.2.2.2.2.2.2.2.2.2.2.2.2.2.2.2.2.2.2.1
      refine lv_tableIn (off := 699) (tgt := 732) (pc := 33) C.1 C.2.1 dL_law_33 (by rw [c_18]; decide) (by rw [c_18]; decide) (by rw [c_18]; rfl) (by decide) ?_
      refine lv_aload_n (pc := 732) C.1 C.2.1 dL_law_732 rfl (lv_at hl 1 rfl) ?_
      refine lv_aload_n (pc := 733) C.1 C.2.1 dL_law_733 rfl (lv_at hl 0 rfl) ?_
      refine lv_iload_n (pc := 734) C.1 C.2.1 dL_law_734 rfl (lv_at hl 3 rfl) ?_
      refine lv_iconst (v := 1) (pc := 735) C.1 C.2.1 dL_law_735 (by decide) ?_
      refine lv_iadd (pc := 736) C.1 C.2.1 dL_law_736 ?_
      refine va_sld (pc := 737) C.1 C.2.1 hX hbl hbA h.2.2.2.1 (s_in (k := 1) rfl (by omega) hL2) dL_law_737 ?_
      refine lv_aload_n (pc := 738) C.1 C.2.1 dL_law_738 rfl (lv_at hl 0 rfl) ?_
      refine lv_iload_n (pc := 739) C.1 C.2.1 dL_law_739 rfl (lv_at hl 3 rfl) ?_
      refine lv_iconst (v := 2) (pc := 740) C.1 C.2.1 dL_law_740 (by decide) ?_
      refine lv_iadd (pc := 741) C.1 C.2.1 dL_law_741 ?_
      refine va_sld (pc := 742) C.1 C.2.1 hX hbl hbA h.2.2.2.1 (s_in (k := 2) rfl (by omega) hL2) dL_law_742 ?_
      refine lc_l (pc := 743) (As := [.int (xs (nI i + 1).toNatClampNeg), .int (xs (nI i + 2).toNatClampNeg)]) (rest := []) C h (m_X8_cost l D t a (xs (nI i + 1).toNatClampNeg) (xs (nI i + 2).toNatClampNeg) zx _ (hw (xs (nI i + 1).toNatClampNeg) (xs (nI i + 2).toNatClampNeg))) mw_X8_cost lm_L_92 md_X8_cost rcX_0 ⟨by decide, by decide⟩ ⟨by decide, by decide⟩ hl.1 rfl (Nat.le_of_ble_eq_true rfl) dL_law_743 (fun r1 zx1 H locs hw h => ?_)
      have h := wd_comm h
      refine lv_pop2_2 (pc := 746) C.1 C.2.1 dL_law_746 rfl ?_
      refine lv_aload_n (pc := 747) C.1 C.2.1 dL_law_747 rfl (lv_at hl 2 rfl) ?_
      refine lv_aload_n (pc := 748) C.1 C.2.1 dL_law_748 rfl (lv_at hl 0 rfl) ?_
      refine lv_iload_n (pc := 749) C.1 C.2.1 dL_law_749 rfl (lv_at hl 3 rfl) ?_
      refine lv_iconst (v := 1) (pc := 750) C.1 C.2.1 dL_law_750 (by decide) ?_
      refine lv_iadd (pc := 751) C.1 C.2.1 dL_law_751 ?_
      refine va_sld (pc := 752) C.1 C.2.1 hX hbl hbA h.2.2.2.1 (s_in (k := 1) rfl (by omega) hL2) dL_law_752 ?_
      refine lv_aload_n (pc := 753) C.1 C.2.1 dL_law_753 rfl (lv_at hl 0 rfl) ?_
      refine lv_iload_n (pc := 754) C.1 C.2.1 dL_law_754 rfl (lv_at hl 3 rfl) ?_
      refine lv_iconst (v := 2) (pc := 755) C.1 C.2.1 dL_law_755 (by decide) ?_
      refine lv_iadd (pc := 756) C.1 C.2.1 dL_law_756 ?_
      refine va_sld (pc := 757) C.1 C.2.1 hX hbl hbA h.2.2.2.1 (s_in (k := 2) rfl (by omega) hL2) dL_law_757 ?_
      refine lc_l (pc := 758) (As := [.int (xs (nI i + 1).toNatClampNeg), .int (xs (nI i + 2).toNatClampNeg)]) (rest := []) C h (m_X9_cost l D t a2 (xs (nI i + 1).toNatClampNeg) (xs (nI i + 2).toNatClampNeg) zm _ hw) mw_X9_cost lm_L_96 md_X9_cost rcM_0 ⟨by decide, by decide⟩ ⟨by decide, by decide⟩ hl.1 rfl (Nat.le_of_ble_eq_true rfl) dL_law_758 (fun r2 zm1 H locs hw h => ?_)
      have h := wd_comm h
      refine lv_pop2_2 (pc := 761) C.1 C.2.1 dL_law_761 rfl ?_
      refine lv_goto (tgt := 1020) (pc := 762) C.1 C.2.1 dL_law_762 (by decide) ?_
      exact back _ _ _ _ _ _ _ hw h hl
    by_cases c_19 : x = 19
    · have hw := hq.2.2.2.2.2.2.2.2.2.2.2.2.2.2.2.2.2.2.2.1
      refine lv_tableIn (off := 732) (tgt := 765) (pc := 33) C.1 C.2.1 dL_law_33 (by rw [c_19]; decide) (by rw [c_19]; decide) (by rw [c_19]; rfl) (by decide) ?_
      refine lv_aload_n (pc := 765) C.1 C.2.1 dL_law_765 rfl (lv_at hl 1 rfl) ?_
      refine lv_aload_n (pc := 766) C.1 C.2.1 dL_law_766 rfl (lv_at hl 0 rfl) ?_
      refine lv_iload_n (pc := 767) C.1 C.2.1 dL_law_767 rfl (lv_at hl 3 rfl) ?_
      refine lv_iconst (v := 1) (pc := 768) C.1 C.2.1 dL_law_768 (by decide) ?_
      refine lv_iadd (pc := 769) C.1 C.2.1 dL_law_769 ?_
      refine va_sld (pc := 770) C.1 C.2.1 hX hbl hbA h.2.2.2.1 (s_in (k := 1) rfl (by omega) hL2) dL_law_770 ?_
      refine lc_l (pc := 771) (As := [.int (xs (nI i + 1).toNatClampNeg)]) (rest := []) C h (m_X8_saved l D t a (xs (nI i + 1).toNatClampNeg) zx _ (hw (xs (nI i + 1).toNatClampNeg))) mw_X8_saved lm_L_97 md_X8_saved rcX_0 ⟨by decide, by decide⟩ ⟨by decide, by decide⟩ hl.1 rfl (Nat.le_of_ble_eq_true rfl) dL_law_771 (fun r1 zx1 H locs hw h => ?_)
      have h := wd_comm h
      refine lv_pop2_2 (pc := 774) C.1 C.2.1 dL_law_774 rfl ?_
      refine lv_aload_n (pc := 775) C.1 C.2.1 dL_law_775 rfl (lv_at hl 2 rfl) ?_
      refine lv_aload_n (pc := 776) C.1 C.2.1 dL_law_776 rfl (lv_at hl 0 rfl) ?_
      refine lv_iload_n (pc := 777) C.1 C.2.1 dL_law_777 rfl (lv_at hl 3 rfl) ?_
      refine lv_iconst (v := 1) (pc := 778) C.1 C.2.1 dL_law_778 (by decide) ?_
      refine lv_iadd (pc := 779) C.1 C.2.1 dL_law_779 ?_
      refine va_sld (pc := 780) C.1 C.2.1 hX hbl hbA h.2.2.2.1 (s_in (k := 1) rfl (by omega) hL2) dL_law_780 ?_
      refine lc_l (pc := 781) (As := [.int (xs (nI i + 1).toNatClampNeg)]) (rest := []) C h (m_X9_saved l D t a2 (xs (nI i + 1).toNatClampNeg) zm _ hw) mw_X9_saved lm_L_101 md_X9_saved rcM_0 ⟨by decide, by decide⟩ ⟨by decide, by decide⟩ hl.1 rfl (Nat.le_of_ble_eq_true rfl) dL_law_781 (fun r2 zm1 H locs hw h => ?_)
      have h := wd_comm h
      refine lv_pop2_2 (pc := 784) C.1 C.2.1 dL_law_784 rfl ?_
      refine lv_goto (tgt := 1020) (pc := 785) C.1 C.2.1 dL_law_785 (by decide) ?_
      exact back _ _ _ _ _ _ _ hw h hl
    by_cases c_20 : x = 20
    · have hw := hq.2.2.2.2.2.2.2.2.2.2.2.2.2.2.2.2.2.2.2.2.1
      refine lv_tableIn (off := 755) (tgt := 788) (pc := 33) C.1 C.2.1 dL_law_33 (by rw [c_20]; decide) (by rw [c_20]; decide) (by rw [c_20]; rfl) (by decide) ?_
      refine lv_aload_n (pc := 788) C.1 C.2.1 dL_law_788 rfl (lv_at hl 1 rfl) ?_
      refine lv_aload_n (pc := 789) C.1 C.2.1 dL_law_789 rfl (lv_at hl 0 rfl) ?_
      refine lv_iload_n (pc := 790) C.1 C.2.1 dL_law_790 rfl (lv_at hl 3 rfl) ?_
      refine lv_iconst (v := 1) (pc := 791) C.1 C.2.1 dL_law_791 (by decide) ?_
      refine lv_iadd (pc := 792) C.1 C.2.1 dL_law_792 ?_
      refine va_sld (pc := 793) C.1 C.2.1 hX hbl hbA h.2.2.2.1 (s_in (k := 1) rfl (by omega) hL2) dL_law_793 ?_
      refine lv_aload_n (pc := 794) C.1 C.2.1 dL_law_794 rfl (lv_at hl 0 rfl) ?_
      refine lv_iload_n (pc := 795) C.1 C.2.1 dL_law_795 rfl (lv_at hl 3 rfl) ?_
      refine lv_iconst (v := 2) (pc := 796) C.1 C.2.1 dL_law_796 (by decide) ?_
      refine lv_iadd (pc := 797) C.1 C.2.1 dL_law_797 ?_
      refine va_sld (pc := 798) C.1 C.2.1 hX hbl hbA h.2.2.2.1 (s_in (k := 2) rfl (by omega) hL2) dL_law_798 ?_
      refine lv_aload_n (pc := 799) C.1 C.2.1 dL_law_799 rfl (lv_at hl 0 rfl) ?_
      refine lv_iload_n (pc := 800) C.1 C.2.1 dL_law_800 rfl (lv_at hl 3 rfl) ?_
      refine lv_iconst (v := 3) (pc := 801) C.1 C.2.1 dL_law_801 (by decide) ?_
      refine lv_iadd (pc := 802) C.1 C.2.1 dL_law_802 ?_
      refine va_sld (pc := 803) C.1 C.2.1 hX hbl hbA h.2.2.2.1 (s_in (k := 3) rfl (by omega) hL2) dL_law_803 ?_
      refine lv_aload_n (pc := 804) C.1 C.2.1 dL_law_804 rfl (lv_at hl 0 rfl) ?_
      refine lv_iload_n (pc := 805) C.1 C.2.1 dL_law_805 rfl (lv_at hl 3 rfl) ?_
      refine lv_iconst (v := 4) (pc := 806) C.1 C.2.1 dL_law_806 (by decide) ?_
      refine lv_iadd (pc := 807) C.1 C.2.1 dL_law_807 ?_
      refine va_sld (pc := 808) C.1 C.2.1 hX hbl hbA h.2.2.2.1 (s_in (k := 4) rfl (by omega) hL2) dL_law_808 ?_
      refine lv_aload_n (pc := 809) C.1 C.2.1 dL_law_809 rfl (lv_at hl 0 rfl) ?_
      refine lv_iload_n (pc := 810) C.1 C.2.1 dL_law_810 rfl (lv_at hl 3 rfl) ?_
      refine lv_iconst (v := 5) (pc := 811) C.1 C.2.1 dL_law_811 (by decide) ?_
      refine lv_iadd (pc := 812) C.1 C.2.1 dL_law_812 ?_
      refine va_sld (pc := 813) C.1 C.2.1 hX hbl hbA h.2.2.2.1 (s_in (k := 5) rfl (by omega) hL2) dL_law_813 ?_
      refine lv_aload_n (pc := 814) C.1 C.2.1 dL_law_814 rfl (lv_at hl 0 rfl) ?_
      refine lv_iload_n (pc := 815) C.1 C.2.1 dL_law_815 rfl (lv_at hl 3 rfl) ?_
      refine lv_bipush (v := 6) (pc := 816) C.1 C.2.1 dL_law_816 (by decide) ?_
      refine lv_iadd (pc := 818) C.1 C.2.1 dL_law_818 ?_
      refine va_sld (pc := 819) C.1 C.2.1 hX hbl hbA h.2.2.2.1 (s_in (k := 6) rfl (by omega) hL2) dL_law_819 ?_
      refine lv_aload_n (pc := 820) C.1 C.2.1 dL_law_820 rfl (lv_at hl 0 rfl) ?_
      refine lv_iload_n (pc := 821) C.1 C.2.1 dL_law_821 rfl (lv_at hl 3 rfl) ?_
      refine lv_bipush (v := 7) (pc := 822) C.1 C.2.1 dL_law_822 (by decide) ?_
      refine lv_iadd (pc := 824) C.1 C.2.1 dL_law_824 ?_
      refine va_sld (pc := 825) C.1 C.2.1 hX hbl hbA h.2.2.2.1 (s_in (k := 7) rfl (by omega) hL2) dL_law_825 ?_
      refine lc_i (pc := 826) (As := [.int (xs (nI i + 1).toNatClampNeg), .int (xs (nI i + 2).toNatClampNeg), .int (xs (nI i + 3).toNatClampNeg), .int (xs (nI i + 4).toNatClampNeg), .int (xs (nI i + 5).toNatClampNeg), .int (xs (nI i + 6).toNatClampNeg), .int (xs (nI i + 7).toNatClampNeg)]) (rest := []) C h (m_X8_store l D t a (xs (nI i + 1).toNatClampNeg) (xs (nI i + 2).toNatClampNeg) (xs (nI i + 3).toNatClampNeg) (xs (nI i + 4).toNatClampNeg) (xs (nI i + 5).toNatClampNeg) (xs (nI i + 6).toNatClampNeg) (xs (nI i + 7).toNatClampNeg) zx _ (hw (xs (nI i + 1).toNatClampNeg) (xs (nI i + 2).toNatClampNeg) (xs (nI i + 3).toNatClampNeg) (xs (nI i + 4).toNatClampNeg) (xs (nI i + 5).toNatClampNeg) (xs (nI i + 6).toNatClampNeg) (xs (nI i + 7).toNatClampNeg))) mw_X8_store lm_L_102 md_X8_store rcX_0 ⟨by decide, by decide⟩ ⟨by decide, by decide⟩ hl.1 rfl (Nat.le_of_ble_eq_true rfl) dL_law_826 (fun r1 zx1 H locs hw h => ?_)
      have h := wd_comm h
      refine lv_pop (pc := 829) C.1 C.2.1 dL_law_829 rfl ?_
      refine lv_aload_n (pc := 830) C.1 C.2.1 dL_law_830 rfl (lv_at hl 2 rfl) ?_
      refine lv_aload_n (pc := 831) C.1 C.2.1 dL_law_831 rfl (lv_at hl 0 rfl) ?_
      refine lv_iload_n (pc := 832) C.1 C.2.1 dL_law_832 rfl (lv_at hl 3 rfl) ?_
      refine lv_iconst (v := 1) (pc := 833) C.1 C.2.1 dL_law_833 (by decide) ?_
      refine lv_iadd (pc := 834) C.1 C.2.1 dL_law_834 ?_
      refine va_sld (pc := 835) C.1 C.2.1 hX hbl hbA h.2.2.2.1 (s_in (k := 1) rfl (by omega) hL2) dL_law_835 ?_
      refine lv_aload_n (pc := 836) C.1 C.2.1 dL_law_836 rfl (lv_at hl 0 rfl) ?_
      refine lv_iload_n (pc := 837) C.1 C.2.1 dL_law_837 rfl (lv_at hl 3 rfl) ?_
      refine lv_iconst (v := 2) (pc := 838) C.1 C.2.1 dL_law_838 (by decide) ?_
      refine lv_iadd (pc := 839) C.1 C.2.1 dL_law_839 ?_
      refine va_sld (pc := 840) C.1 C.2.1 hX hbl hbA h.2.2.2.1 (s_in (k := 2) rfl (by omega) hL2) dL_law_840 ?_
      refine lv_aload_n (pc := 841) C.1 C.2.1 dL_law_841 rfl (lv_at hl 0 rfl) ?_
      refine lv_iload_n (pc := 842) C.1 C.2.1 dL_law_842 rfl (lv_at hl 3 rfl) ?_
      refine lv_iconst (v := 3) (pc := 843) C.1 C.2.1 dL_law_843 (by decide) ?_
      refine lv_iadd (pc := 844) C.1 C.2.1 dL_law_844 ?_
      refine va_sld (pc := 845) C.1 C.2.1 hX hbl hbA h.2.2.2.1 (s_in (k := 3) rfl (by omega) hL2) dL_law_845 ?_
      refine lv_aload_n (pc := 846) C.1 C.2.1 dL_law_846 rfl (lv_at hl 0 rfl) ?_
      refine lv_iload_n (pc := 847) C.1 C.2.1 dL_law_847 rfl (lv_at hl 3 rfl) ?_
      refine lv_iconst (v := 4) (pc := 848) C.1 C.2.1 dL_law_848 (by decide) ?_
      refine lv_iadd (pc := 849) C.1 C.2.1 dL_law_849 ?_
      refine va_sld (pc := 850) C.1 C.2.1 hX hbl hbA h.2.2.2.1 (s_in (k := 4) rfl (by omega) hL2) dL_law_850 ?_
      refine lv_aload_n (pc := 851) C.1 C.2.1 dL_law_851 rfl (lv_at hl 0 rfl) ?_
      refine lv_iload_n (pc := 852) C.1 C.2.1 dL_law_852 rfl (lv_at hl 3 rfl) ?_
      refine lv_iconst (v := 5) (pc := 853) C.1 C.2.1 dL_law_853 (by decide) ?_
      refine lv_iadd (pc := 854) C.1 C.2.1 dL_law_854 ?_
      refine va_sld (pc := 855) C.1 C.2.1 hX hbl hbA h.2.2.2.1 (s_in (k := 5) rfl (by omega) hL2) dL_law_855 ?_
      refine lv_aload_n (pc := 856) C.1 C.2.1 dL_law_856 rfl (lv_at hl 0 rfl) ?_
      refine lv_iload_n (pc := 857) C.1 C.2.1 dL_law_857 rfl (lv_at hl 3 rfl) ?_
      refine lv_bipush (v := 6) (pc := 858) C.1 C.2.1 dL_law_858 (by decide) ?_
      refine lv_iadd (pc := 860) C.1 C.2.1 dL_law_860 ?_
      refine va_sld (pc := 861) C.1 C.2.1 hX hbl hbA h.2.2.2.1 (s_in (k := 6) rfl (by omega) hL2) dL_law_861 ?_
      refine lv_aload_n (pc := 862) C.1 C.2.1 dL_law_862 rfl (lv_at hl 0 rfl) ?_
      refine lv_iload_n (pc := 863) C.1 C.2.1 dL_law_863 rfl (lv_at hl 3 rfl) ?_
      refine lv_bipush (v := 7) (pc := 864) C.1 C.2.1 dL_law_864 (by decide) ?_
      refine lv_iadd (pc := 866) C.1 C.2.1 dL_law_866 ?_
      refine va_sld (pc := 867) C.1 C.2.1 hX hbl hbA h.2.2.2.1 (s_in (k := 7) rfl (by omega) hL2) dL_law_867 ?_
      refine lc_i (pc := 868) (As := [.int (xs (nI i + 1).toNatClampNeg), .int (xs (nI i + 2).toNatClampNeg), .int (xs (nI i + 3).toNatClampNeg), .int (xs (nI i + 4).toNatClampNeg), .int (xs (nI i + 5).toNatClampNeg), .int (xs (nI i + 6).toNatClampNeg), .int (xs (nI i + 7).toNatClampNeg)]) (rest := []) C h (m_X9_store l D t a2 (xs (nI i + 1).toNatClampNeg) (xs (nI i + 2).toNatClampNeg) (xs (nI i + 3).toNatClampNeg) (xs (nI i + 4).toNatClampNeg) (xs (nI i + 5).toNatClampNeg) (xs (nI i + 6).toNatClampNeg) (xs (nI i + 7).toNatClampNeg) zm _ hw) mw_X9_store lm_L_106 md_X9_store rcM_0 ⟨by decide, by decide⟩ ⟨by decide, by decide⟩ hl.1 rfl (Nat.le_of_ble_eq_true rfl) dL_law_868 (fun r2 zm1 H locs hw h => ?_)
      have h := wd_comm h
      refine lv_pop (pc := 871) C.1 C.2.1 dL_law_871 rfl ?_
      refine lv_goto (tgt := 1020) (pc := 872) C.1 C.2.1 dL_law_872 (by decide) ?_
      exact back _ _ _ _ _ _ _ hw h hl
    by_cases c_21 : x = 21
    · have hw := hq.2.2.2.2.2.2.2.2.2.2.2.2.2.2.2.2.2.2.2.2.2.1
      refine lv_tableIn (off := 842) (tgt := 875) (pc := 33) C.1 C.2.1 dL_law_33 (by rw [c_21]; decide) (by rw [c_21]; decide) (by rw [c_21]; rfl) (by decide) ?_
      refine lv_aload_n (pc := 875) C.1 C.2.1 dL_law_875 rfl (lv_at hl 1 rfl) ?_
      refine lv_aload_n (pc := 876) C.1 C.2.1 dL_law_876 rfl (lv_at hl 0 rfl) ?_
      refine lv_iload_n (pc := 877) C.1 C.2.1 dL_law_877 rfl (lv_at hl 3 rfl) ?_
      refine lv_iconst (v := 1) (pc := 878) C.1 C.2.1 dL_law_878 (by decide) ?_
      refine lv_iadd (pc := 879) C.1 C.2.1 dL_law_879 ?_
      refine va_sld (pc := 880) C.1 C.2.1 hX hbl hbA h.2.2.2.1 (s_in (k := 1) rfl (by omega) hL2) dL_law_880 ?_
      refine lv_aload_n (pc := 881) C.1 C.2.1 dL_law_881 rfl (lv_at hl 0 rfl) ?_
      refine lv_iload_n (pc := 882) C.1 C.2.1 dL_law_882 rfl (lv_at hl 3 rfl) ?_
      refine lv_iconst (v := 2) (pc := 883) C.1 C.2.1 dL_law_883 (by decide) ?_
      refine lv_iadd (pc := 884) C.1 C.2.1 dL_law_884 ?_
      refine va_sld (pc := 885) C.1 C.2.1 hX hbl hbA h.2.2.2.1 (s_in (k := 2) rfl (by omega) hL2) dL_law_885 ?_
      refine lc_i (pc := 886) (As := [.int (xs (nI i + 1).toNatClampNeg), .int (xs (nI i + 2).toNatClampNeg)]) (rest := []) C h (m_X8_level l D t a (xs (nI i + 1).toNatClampNeg) (xs (nI i + 2).toNatClampNeg) zx _ (hw (xs (nI i + 1).toNatClampNeg) (xs (nI i + 2).toNatClampNeg))) mw_X8_level lm_L_107 md_X8_level rcX_0 ⟨by decide, by decide⟩ ⟨by decide, by decide⟩ hl.1 rfl (Nat.le_of_ble_eq_true rfl) dL_law_886 (fun r1 zx1 H locs hw h => ?_)
      have h := wd_comm h
      refine lv_pop (pc := 889) C.1 C.2.1 dL_law_889 rfl ?_
      refine lv_aload_n (pc := 890) C.1 C.2.1 dL_law_890 rfl (lv_at hl 2 rfl) ?_
      refine lv_aload_n (pc := 891) C.1 C.2.1 dL_law_891 rfl (lv_at hl 0 rfl) ?_
      refine lv_iload_n (pc := 892) C.1 C.2.1 dL_law_892 rfl (lv_at hl 3 rfl) ?_
      refine lv_iconst (v := 1) (pc := 893) C.1 C.2.1 dL_law_893 (by decide) ?_
      refine lv_iadd (pc := 894) C.1 C.2.1 dL_law_894 ?_
      refine va_sld (pc := 895) C.1 C.2.1 hX hbl hbA h.2.2.2.1 (s_in (k := 1) rfl (by omega) hL2) dL_law_895 ?_
      refine lv_aload_n (pc := 896) C.1 C.2.1 dL_law_896 rfl (lv_at hl 0 rfl) ?_
      refine lv_iload_n (pc := 897) C.1 C.2.1 dL_law_897 rfl (lv_at hl 3 rfl) ?_
      refine lv_iconst (v := 2) (pc := 898) C.1 C.2.1 dL_law_898 (by decide) ?_
      refine lv_iadd (pc := 899) C.1 C.2.1 dL_law_899 ?_
      refine va_sld (pc := 900) C.1 C.2.1 hX hbl hbA h.2.2.2.1 (s_in (k := 2) rfl (by omega) hL2) dL_law_900 ?_
      refine lc_i (pc := 901) (As := [.int (xs (nI i + 1).toNatClampNeg), .int (xs (nI i + 2).toNatClampNeg)]) (rest := []) C h (m_X9_level l D t a2 (xs (nI i + 1).toNatClampNeg) (xs (nI i + 2).toNatClampNeg) zm _ hw) mw_X9_level lm_L_110 md_X9_level rcM_0 ⟨by decide, by decide⟩ ⟨by decide, by decide⟩ hl.1 rfl (Nat.le_of_ble_eq_true rfl) dL_law_901 (fun r2 zm1 H locs hw h => ?_)
      have h := wd_comm h
      refine lv_pop (pc := 904) C.1 C.2.1 dL_law_904 rfl ?_
      refine lv_goto (tgt := 1020) (pc := 905) C.1 C.2.1 dL_law_905 (by decide) ?_
      exact back _ _ _ _ _ _ _ hw h hl
    by_cases c_22 : x = 22
    · have hw := hq.2.2.2.2.2.2.2.2.2.2.2.2.2.2.2.2.2.2.2.2.2.2.1
      refine lv_tableIn (off := 875) (tgt := 908) (pc := 33) C.1 C.2.1 dL_law_33 (by rw [c_22]; decide) (by rw [c_22]; decide) (by rw [c_22]; rfl) (by decide) ?_
      refine lv_aload_n (pc := 908) C.1 C.2.1 dL_law_908 rfl (lv_at hl 1 rfl) ?_
      refine lv_aload_n (pc := 909) C.1 C.2.1 dL_law_909 rfl (lv_at hl 0 rfl) ?_
      refine lv_iload_n (pc := 910) C.1 C.2.1 dL_law_910 rfl (lv_at hl 3 rfl) ?_
      refine lv_iconst (v := 1) (pc := 911) C.1 C.2.1 dL_law_911 (by decide) ?_
      refine lv_iadd (pc := 912) C.1 C.2.1 dL_law_912 ?_
      refine va_sld (pc := 913) C.1 C.2.1 hX hbl hbA h.2.2.2.1 (s_in (k := 1) rfl (by omega) hL2) dL_law_913 ?_
      refine lv_aload_n (pc := 914) C.1 C.2.1 dL_law_914 rfl (lv_at hl 0 rfl) ?_
      refine lv_iload_n (pc := 915) C.1 C.2.1 dL_law_915 rfl (lv_at hl 3 rfl) ?_
      refine lv_iconst (v := 2) (pc := 916) C.1 C.2.1 dL_law_916 (by decide) ?_
      refine lv_iadd (pc := 917) C.1 C.2.1 dL_law_917 ?_
      refine va_sld (pc := 918) C.1 C.2.1 hX hbl hbA h.2.2.2.1 (s_in (k := 2) rfl (by omega) hL2) dL_law_918 ?_
      refine lv_aload_n (pc := 919) C.1 C.2.1 dL_law_919 rfl (lv_at hl 0 rfl) ?_
      refine lv_iload_n (pc := 920) C.1 C.2.1 dL_law_920 rfl (lv_at hl 3 rfl) ?_
      refine lv_iconst (v := 3) (pc := 921) C.1 C.2.1 dL_law_921 (by decide) ?_
      refine lv_iadd (pc := 922) C.1 C.2.1 dL_law_922 ?_
      refine va_sld (pc := 923) C.1 C.2.1 hX hbl hbA h.2.2.2.1 (s_in (k := 3) rfl (by omega) hL2) dL_law_923 ?_
      refine lc_l (pc := 924) (As := [.int (xs (nI i + 1).toNatClampNeg), .int (xs (nI i + 2).toNatClampNeg), .int (xs (nI i + 3).toNatClampNeg)]) (rest := []) C h (m_X8_fill l D t a (xs (nI i + 1).toNatClampNeg) (xs (nI i + 2).toNatClampNeg) (xs (nI i + 3).toNatClampNeg) zx _ (hw (xs (nI i + 1).toNatClampNeg) (xs (nI i + 2).toNatClampNeg) (xs (nI i + 3).toNatClampNeg))) mw_X8_fill lm_L_111 md_X8_fill rcX_0 ⟨by decide, by decide⟩ ⟨by decide, by decide⟩ hl.1 rfl (Nat.le_of_ble_eq_true rfl) dL_law_924 (fun r1 zx1 H locs hw h => ?_)
      have h := wd_comm h
      refine lv_pop2_2 (pc := 927) C.1 C.2.1 dL_law_927 rfl ?_
      refine lv_aload_n (pc := 928) C.1 C.2.1 dL_law_928 rfl (lv_at hl 2 rfl) ?_
      refine lv_aload_n (pc := 929) C.1 C.2.1 dL_law_929 rfl (lv_at hl 0 rfl) ?_
      refine lv_iload_n (pc := 930) C.1 C.2.1 dL_law_930 rfl (lv_at hl 3 rfl) ?_
      refine lv_iconst (v := 1) (pc := 931) C.1 C.2.1 dL_law_931 (by decide) ?_
      refine lv_iadd (pc := 932) C.1 C.2.1 dL_law_932 ?_
      refine va_sld (pc := 933) C.1 C.2.1 hX hbl hbA h.2.2.2.1 (s_in (k := 1) rfl (by omega) hL2) dL_law_933 ?_
      refine lv_aload_n (pc := 934) C.1 C.2.1 dL_law_934 rfl (lv_at hl 0 rfl) ?_
      refine lv_iload_n (pc := 935) C.1 C.2.1 dL_law_935 rfl (lv_at hl 3 rfl) ?_
      refine lv_iconst (v := 2) (pc := 936) C.1 C.2.1 dL_law_936 (by decide) ?_
      refine lv_iadd (pc := 937) C.1 C.2.1 dL_law_937 ?_
      refine va_sld (pc := 938) C.1 C.2.1 hX hbl hbA h.2.2.2.1 (s_in (k := 2) rfl (by omega) hL2) dL_law_938 ?_
      refine lv_aload_n (pc := 939) C.1 C.2.1 dL_law_939 rfl (lv_at hl 0 rfl) ?_
      refine lv_iload_n (pc := 940) C.1 C.2.1 dL_law_940 rfl (lv_at hl 3 rfl) ?_
      refine lv_iconst (v := 3) (pc := 941) C.1 C.2.1 dL_law_941 (by decide) ?_
      refine lv_iadd (pc := 942) C.1 C.2.1 dL_law_942 ?_
      refine va_sld (pc := 943) C.1 C.2.1 hX hbl hbA h.2.2.2.1 (s_in (k := 3) rfl (by omega) hL2) dL_law_943 ?_
      refine lc_l (pc := 944) (As := [.int (xs (nI i + 1).toNatClampNeg), .int (xs (nI i + 2).toNatClampNeg), .int (xs (nI i + 3).toNatClampNeg)]) (rest := []) C h (m_X9_fill l D t a2 (xs (nI i + 1).toNatClampNeg) (xs (nI i + 2).toNatClampNeg) (xs (nI i + 3).toNatClampNeg) zm _ hw) mw_X9_fill lm_L_115 md_X9_fill rcM_0 ⟨by decide, by decide⟩ ⟨by decide, by decide⟩ hl.1 rfl (Nat.le_of_ble_eq_true rfl) dL_law_944 (fun r2 zm1 H locs hw h => ?_)
      have h := wd_comm h
      refine lv_pop2_2 (pc := 947) C.1 C.2.1 dL_law_947 rfl ?_
      refine lv_goto (tgt := 1020) (pc := 948) C.1 C.2.1 dL_law_948 (by decide) ?_
      exact back _ _ _ _ _ _ _ hw h hl
    by_cases c_23 : x = 23
    · have hw := hq.2.2.2.2.2.2.2.2.2.2.2.2.2.2.2.2.2.2.2.2.2.2.2.1
      refine lv_tableIn (off := 918) (tgt := 951) (pc := 33) C.1 C.2.1 dL_law_33 (by rw [c_23]; decide) (by rw [c_23]; decide) (by rw [c_23]; rfl) (by decide) ?_
      refine lv_aload_n (pc := 951) C.1 C.2.1 dL_law_951 rfl (lv_at hl 1 rfl) ?_
      refine lv_aload_n (pc := 952) C.1 C.2.1 dL_law_952 rfl (lv_at hl 0 rfl) ?_
      refine lv_iload_n (pc := 953) C.1 C.2.1 dL_law_953 rfl (lv_at hl 3 rfl) ?_
      refine lv_iconst (v := 1) (pc := 954) C.1 C.2.1 dL_law_954 (by decide) ?_
      refine lv_iadd (pc := 955) C.1 C.2.1 dL_law_955 ?_
      refine va_sld (pc := 956) C.1 C.2.1 hX hbl hbA h.2.2.2.1 (s_in (k := 1) rfl (by omega) hL2) dL_law_956 ?_
      refine lv_aload_n (pc := 957) C.1 C.2.1 dL_law_957 rfl (lv_at hl 0 rfl) ?_
      refine lv_iload_n (pc := 958) C.1 C.2.1 dL_law_958 rfl (lv_at hl 3 rfl) ?_
      refine lv_iconst (v := 2) (pc := 959) C.1 C.2.1 dL_law_959 (by decide) ?_
      refine lv_iadd (pc := 960) C.1 C.2.1 dL_law_960 ?_
      refine va_sld (pc := 961) C.1 C.2.1 hX hbl hbA h.2.2.2.1 (s_in (k := 2) rfl (by omega) hL2) dL_law_961 ?_
      refine lc_i (pc := 962) (As := [.int (xs (nI i + 1).toNatClampNeg), .int (xs (nI i + 2).toNatClampNeg)]) (rest := []) C h (m_X8_filled l D t a (xs (nI i + 1).toNatClampNeg) (xs (nI i + 2).toNatClampNeg) zx _ (hw (xs (nI i + 1).toNatClampNeg) (xs (nI i + 2).toNatClampNeg))) mw_X8_filled lm_L_116 md_X8_filled rcX_0 ⟨by decide, by decide⟩ ⟨by decide, by decide⟩ hl.1 rfl (Nat.le_of_ble_eq_true rfl) dL_law_962 (fun r1 zx1 H locs hw h => ?_)
      rw [hw.1] at h
      have hw := hw.2
      have h := wd_comm h
      refine lv_aload_n (pc := 965) C.1 C.2.1 dL_law_965 rfl (lv_at hl 2 rfl) ?_
      refine lv_aload_n (pc := 966) C.1 C.2.1 dL_law_966 rfl (lv_at hl 0 rfl) ?_
      refine lv_iload_n (pc := 967) C.1 C.2.1 dL_law_967 rfl (lv_at hl 3 rfl) ?_
      refine lv_iconst (v := 1) (pc := 968) C.1 C.2.1 dL_law_968 (by decide) ?_
      refine lv_iadd (pc := 969) C.1 C.2.1 dL_law_969 ?_
      refine va_sld (pc := 970) C.1 C.2.1 hX hbl hbA h.2.2.2.1 (s_in (k := 1) rfl (by omega) hL2) dL_law_970 ?_
      refine lv_aload_n (pc := 971) C.1 C.2.1 dL_law_971 rfl (lv_at hl 0 rfl) ?_
      refine lv_iload_n (pc := 972) C.1 C.2.1 dL_law_972 rfl (lv_at hl 3 rfl) ?_
      refine lv_iconst (v := 2) (pc := 973) C.1 C.2.1 dL_law_973 (by decide) ?_
      refine lv_iadd (pc := 974) C.1 C.2.1 dL_law_974 ?_
      refine va_sld (pc := 975) C.1 C.2.1 hX hbl hbA h.2.2.2.1 (s_in (k := 2) rfl (by omega) hL2) dL_law_975 ?_
      refine lc_i (pc := 976) (As := [.int (xs (nI i + 1).toNatClampNeg), .int (xs (nI i + 2).toNatClampNeg)]) (rest := [.int r1]) C h (m_X9_filled l D t a2 (xs (nI i + 1).toNatClampNeg) (xs (nI i + 2).toNatClampNeg) zm _ hw) mw_X9_filled lm_L_119 md_X9_filled rcM_0 ⟨by decide, by decide⟩ ⟨by decide, by decide⟩ hl.1 rfl (Nat.le_of_ble_eq_true rfl) dL_law_976 (fun r2 zm1 H locs hw h => ?_)
      have h := wd_comm h
      refine lv_icmp_eq (tgt := 1020) (pc := 979) C.1 C.2.1 dL_law_979 (by decide) (fun _ => ?_) (fun c9 => absurd hw.1 c9)
      have hw := hw.2
      exact back _ _ _ _ _ _ _ hw h hl
    by_cases c_24 : x = 24
    · have hw := hq.2.2.2.2.2.2.2.2.2.2.2.2.2.2.2.2.2.2.2.2.2.2.2.2.1
      refine lv_tableIn (off := 951) (tgt := 984) (pc := 33) C.1 C.2.1 dL_law_33 (by rw [c_24]; decide) (by rw [c_24]; decide) (by rw [c_24]; rfl) (by decide) ?_
      refine lv_aload_n (pc := 984) C.1 C.2.1 dL_law_984 rfl (lv_at hl 1 rfl) ?_
      refine lv_aload_n (pc := 985) C.1 C.2.1 dL_law_985 rfl (lv_at hl 0 rfl) ?_
      refine lv_iload_n (pc := 986) C.1 C.2.1 dL_law_986 rfl (lv_at hl 3 rfl) ?_
      refine lv_iconst (v := 1) (pc := 987) C.1 C.2.1 dL_law_987 (by decide) ?_
      refine lv_iadd (pc := 988) C.1 C.2.1 dL_law_988 ?_
      refine va_sld (pc := 989) C.1 C.2.1 hX hbl hbA h.2.2.2.1 (s_in (k := 1) rfl (by omega) hL2) dL_law_989 ?_
      refine lc_i (pc := 990) (As := [.int (xs (nI i + 1).toNatClampNeg)]) (rest := []) C h (m_X8_count l D t a (xs (nI i + 1).toNatClampNeg) zx _ (hw (xs (nI i + 1).toNatClampNeg))) mw_X8_count lm_L_120 md_X8_count rcX_0 ⟨by decide, by decide⟩ ⟨by decide, by decide⟩ hl.1 rfl (Nat.le_of_ble_eq_true rfl) dL_law_990 (fun r1 zx1 H locs hw h => ?_)
      rw [hw.1] at h
      have hw := hw.2
      have h := wd_comm h
      refine lv_pop (pc := 993) C.1 C.2.1 dL_law_993 rfl ?_
      refine lv_aload_n (pc := 994) C.1 C.2.1 dL_law_994 rfl (lv_at hl 2 rfl) ?_
      refine lv_aload_n (pc := 995) C.1 C.2.1 dL_law_995 rfl (lv_at hl 0 rfl) ?_
      refine lv_iload_n (pc := 996) C.1 C.2.1 dL_law_996 rfl (lv_at hl 3 rfl) ?_
      refine lv_iconst (v := 1) (pc := 997) C.1 C.2.1 dL_law_997 (by decide) ?_
      refine lv_iadd (pc := 998) C.1 C.2.1 dL_law_998 ?_
      refine va_sld (pc := 999) C.1 C.2.1 hX hbl hbA h.2.2.2.1 (s_in (k := 1) rfl (by omega) hL2) dL_law_999 ?_
      refine lc_i (pc := 1000) (As := [.int (xs (nI i + 1).toNatClampNeg)]) (rest := []) C h (m_X9_count l D t a2 (xs (nI i + 1).toNatClampNeg) zm _ hw) mw_X9_count lm_L_123 md_X9_count rcM_0 ⟨by decide, by decide⟩ ⟨by decide, by decide⟩ hl.1 rfl (Nat.le_of_ble_eq_true rfl) dL_law_1000 (fun r2 zm1 H locs hw h => ?_)
      have h := wd_comm h
      refine lv_pop (pc := 1003) C.1 C.2.1 dL_law_1003 rfl ?_
      refine lv_goto (tgt := 1020) (pc := 1004) C.1 C.2.1 dL_law_1004 (by decide) ?_
      exact back _ _ _ _ _ _ _ hw h hl
    by_cases c_25 : x = 25
    · have hw := hq.2.2.2.2.2.2.2.2.2.2.2.2.2.2.2.2.2.2.2.2.2.2.2.2.2
      refine lv_tableIn (off := 974) (tgt := 1007) (pc := 33) C.1 C.2.1 dL_law_33 (by rw [c_25]; decide) (by rw [c_25]; decide) (by rw [c_25]; rfl) (by decide) ?_
      refine lv_aload_n (pc := 1007) C.1 C.2.1 dL_law_1007 rfl (lv_at hl 1 rfl) ?_
      refine lc_i (pc := 1008) (As := []) (rest := []) C h (m_X8_status l D t a zx _ (hw )) mw_X8_status lm_L_124 md_X8_status rcX_0 ⟨by decide, by decide⟩ ⟨by decide, by decide⟩ hl.1 rfl (Nat.le_of_ble_eq_true rfl) dL_law_1008 (fun r1 zx1 H locs hw h => ?_)
      rw [hw.1] at h
      have hw := hw.2
      have h := wd_comm h
      refine lv_pop (pc := 1011) C.1 C.2.1 dL_law_1011 rfl ?_
      refine lv_aload_n (pc := 1012) C.1 C.2.1 dL_law_1012 rfl (lv_at hl 2 rfl) ?_
      refine lc_i (pc := 1013) (As := []) (rest := []) C h (m_X9_status l D t a2 zm _ hw) mw_X9_status lm_L_127 md_X9_status rcM_0 ⟨by decide, by decide⟩ ⟨by decide, by decide⟩ hl.1 rfl (Nat.le_of_ble_eq_true rfl) dL_law_1013 (fun r2 zm1 H locs hw h => ?_)
      have h := wd_comm h
      refine lv_pop (pc := 1016) C.1 C.2.1 dL_law_1016 rfl ?_
      refine lv_goto (tgt := 1020) (pc := 1017) C.1 C.2.1 dL_law_1017 (by decide) ?_
      exact back _ _ _ _ _ _ _ hw h hl
    have n_0 := lv_neT (a := 0) c_0 (by decide)
    have n_1 := lv_neT (a := 1) c_1 (by decide)
    have n_2 := lv_neT (a := 2) c_2 (by decide)
    have n_3 := lv_neT (a := 3) c_3 (by decide)
    have n_4 := lv_neT (a := 4) c_4 (by decide)
    have n_5 := lv_neT (a := 5) c_5 (by decide)
    have n_6 := lv_neT (a := 6) c_6 (by decide)
    have n_7 := lv_neT (a := 7) c_7 (by decide)
    have n_8 := lv_neT (a := 8) c_8 (by decide)
    have n_9 := lv_neT (a := 9) c_9 (by decide)
    have n_10 := lv_neT (a := 10) c_10 (by decide)
    have n_11 := lv_neT (a := 11) c_11 (by decide)
    have n_12 := lv_neT (a := 12) c_12 (by decide)
    have n_13 := lv_neT (a := 13) c_13 (by decide)
    have n_14 := lv_neT (a := 14) c_14 (by decide)
    have n_15 := lv_neT (a := 15) c_15 (by decide)
    have n_16 := lv_neT (a := 16) c_16 (by decide)
    have n_17 := lv_neT (a := 17) c_17 (by decide)
    have n_18 := lv_neT (a := 18) c_18 (by decide)
    have n_19 := lv_neT (a := 19) c_19 (by decide)
    have n_20 := lv_neT (a := 20) c_20 (by decide)
    have n_21 := lv_neT (a := 21) c_21 (by decide)
    have n_22 := lv_neT (a := 22) c_22 (by decide)
    have n_23 := lv_neT (a := 23) c_23 (by decide)
    have n_24 := lv_neT (a := 24) c_24 (by decide)
    have n_25 := lv_neT (a := 25) c_25 (by decide)
    have hd9 : x.toInt < 0 ∨ 25 < x.toInt := by omega
    refine lv_tableOut (tgt := 1020) (pc := 33) C.1 C.2.1 dL_law_33 hd9 (by decide) ?_
    exact back _ _ _ _ _ _ _ hj h hl
