/-! ===== the law: a case a call ===== -/
section SCR
variable {V : VV} {cs ss : Nat} {h : AH} {pc : Nat} {L : List (Nat × Value)} {st : List Value} {cc : ByteArray}
theorem b_lds (hb : V.2.1.2.1 = cc) {b Ln j : Nat} {xs : Nat → Int32} {i : Int32} (hx : gX V.1 = (b, Ln, xs)) (hd : decode cc pc = .ok (.iaload, 1)) (hi : IX i j) (hj : j < Ln) (kk : AW V cs ss h (pc + 1) L (.int (xs j) :: st)) : AW V cs ss h pc L (.int i :: .ref b :: st) := by
  obtain rfl : (gX V.1).1 = b := by rw [hx]
  refine a_ldScript hb hd (hi.inn (by rw [hx]; exact hj)) ?_
  rw [hi.2, show (gX V.1).2.2 = xs by rw [hx]]
  exact kk
theorem b_lns (hb : V.2.1.2.1 = cc) {b Ln : Nat} {xs : Nat → Int32} (hx : gX V.1 = (b, Ln, xs)) (hd : decode cc pc = .ok (.arraylength, 1)) (kk : AW V cs ss h (pc + 1) L (.int (nI Ln) :: st)) : AW V cs ss h pc L (.ref b :: st) := by
  obtain rfl : (gX V.1).1 = b := by rw [hx]
  refine a_lenScript hb hd ?_
  rw [show (gX V.1).2.1 = Ln by rw [hx]]
  exact kk
end SCR
theorem lw_c0 {V : VV} {b B Ln t cs ss : Nat} {xs : Nat → Int32} {h : AH} (hb : V.2.1.2.1 = code) (ow : V.2.1.1.cls = RL) (hr : V.2.2.1 = room_1) (hx : gX V.1 = (b, Ln, xs)) (ht : 5 * t + 5 ≤ Ln) (hl : Ln ≤ 320) (hc : cs ≤ 1000 ∧ ss ≤ 100000) (H : INV h B) (K : ∀ h', INV h' B → AW V (cs + 6) (ss + 271) h' 1131 [(0, .ref b), (1, .ref B), (2, .ref (B + 51)), (3, .int (nI (5 * t)))] []) : AW V cs ss h 168 [(0, .ref b), (1, .ref B), (2, .ref (B + 51)), (3, .int (nI (5 * t)))] [] := by
  obtain ⟨v, K_, dx, mc, ms, dm, ⟨q1, q2, q3, q4⟩, mx, mm⟩ := s_pause V.1 h B H (xs (5 * t + 1)) (xs (5 * t + 2)) (xs (5 * t + 3)) (xs (5 * t + 4))
  refine a_aload_n hb dL_law_168 rfl 1 rfl ?_
  refine a_aload_n hb dL_law_169 rfl 0 rfl ?_
  refine a_iload_n hb dL_law_170 rfl 3 rfl ?_
  refine a_iconst (v := 1) hb dL_law_171 (by decide) ?_
  refine a_iadd hb dL_law_172 ?_
  refine b_lds (j := 5 * t + 1) hb hx dL_law_173 (IX.add (IX.n (by omega)) ⟨by decide, by decide⟩ (by omega)) (by omega) ?_
  refine a_aload_n hb dL_law_174 rfl 0 rfl ?_
  refine a_iload_n hb dL_law_175 rfl 3 rfl ?_
  refine a_iconst (v := 2) hb dL_law_176 (by decide) ?_
  refine a_iadd hb dL_law_177 ?_
  refine b_lds (j := 5 * t + 2) hb hx dL_law_178 (IX.add (IX.n (by omega)) ⟨by decide, by decide⟩ (by omega)) (by omega) ?_
  refine a_aload_n hb dL_law_179 rfl 0 rfl ?_
  refine a_iload_n hb dL_law_180 rfl 3 rfl ?_
  refine a_iconst (v := 3) hb dL_law_181 (by decide) ?_
  refine a_iadd hb dL_law_182 ?_
  refine b_lds (j := 5 * t + 3) hb hx dL_law_183 (IX.add (IX.n (by omega)) ⟨by decide, by decide⟩ (by omega)) (by omega) ?_
  refine a_aload_n hb dL_law_184 rfl 0 rfl ?_
  refine a_iload_n hb dL_law_185 rfl 3 rfl ?_
  refine a_iconst (v := 4) hb dL_law_186 (by decide) ?_
  refine a_iadd hb dL_law_187 ?_
  refine b_lds (j := 5 * t + 4) hb hx dL_law_188 (IX.add (IX.n (by omega)) ⟨by decide, by decide⟩ (by omega)) (by omega) ?_
  refine a_callV hb dL_law_189 mx (by rw [ow]; exact clv_RL_13) (H.1.1 0 (by decide)) (by decide) rfl rfl rfl (Nat.le_of_ble_eq_true rfl) (by rw [hr]; exact ⟨show dx + 1 ≤ 2048 from by omega, show 8 + (6 + 11) + 64 * dx ≤ 84000 from by omega⟩) (by rw [hr]; exact ⟨show cs + mc ≤ 600000 from by omega, show ss + ms ≤ 7302250 from by omega⟩) ?_
  intro rv h1 hq_
  obtain ⟨hv_, hk_⟩ := hq_
  subst hv_
  obtain ⟨l1, am2⟩ := mm h1 hk_
  show AW V (cs + mc) (ss + ms) h1 192 [(0, .ref b), (1, .ref B), (2, .ref (B + 51)), (3, .int (nI (5 * t)))] [.int v]
  refine a_aload_n hb dL_law_192 rfl 2 rfl ?_
  refine a_aload_n hb dL_law_193 rfl 0 rfl ?_
  refine a_iload_n hb dL_law_194 rfl 3 rfl ?_
  refine a_iconst (v := 1) hb dL_law_195 (by decide) ?_
  refine a_iadd hb dL_law_196 ?_
  refine b_lds (j := 5 * t + 1) hb hx dL_law_197 (IX.add (IX.n (by omega)) ⟨by decide, by decide⟩ (by omega)) (by omega) ?_
  refine a_aload_n hb dL_law_198 rfl 0 rfl ?_
  refine a_iload_n hb dL_law_199 rfl 3 rfl ?_
  refine a_iconst (v := 2) hb dL_law_200 (by decide) ?_
  refine a_iadd hb dL_law_201 ?_
  refine b_lds (j := 5 * t + 2) hb hx dL_law_202 (IX.add (IX.n (by omega)) ⟨by decide, by decide⟩ (by omega)) (by omega) ?_
  refine a_aload_n hb dL_law_203 rfl 0 rfl ?_
  refine a_iload_n hb dL_law_204 rfl 3 rfl ?_
  refine a_iconst (v := 3) hb dL_law_205 (by decide) ?_
  refine a_iadd hb dL_law_206 ?_
  refine b_lds (j := 5 * t + 3) hb hx dL_law_207 (IX.add (IX.n (by omega)) ⟨by decide, by decide⟩ (by omega)) (by omega) ?_
  refine a_aload_n hb dL_law_208 rfl 0 rfl ?_
  refine a_iload_n hb dL_law_209 rfl 3 rfl ?_
  refine a_iconst (v := 4) hb dL_law_210 (by decide) ?_
  refine a_iadd hb dL_law_211 ?_
  refine b_lds (j := 5 * t + 4) hb hx dL_law_212 (IX.add (IX.n (by omega)) ⟨by decide, by decide⟩ (by omega)) (by omega) ?_
  refine a_callV hb dL_law_213 am2 (by rw [ow]; exact clv_RL_17) (l1.1 51 (by decide)) (by decide) rfl rfl rfl (Nat.le_of_ble_eq_true rfl) (by rw [hr]; exact ⟨show dm + 1 ≤ 2048 from by omega, show 8 + (6 + 11) + 64 * dm ≤ 84000 from by omega⟩) (by rw [hr]; exact ⟨show cs + mc + 0 ≤ 600000 from by omega, show ss + ms + 0 ≤ 7302250 from by omega⟩) ?_
  intro rv h2 hq_
  obtain ⟨hv_, hi_⟩ := hq_
  subst hv_
  show AW V (cs + mc) (ss + ms) h2 216 [(0, .ref b), (1, .ref B), (2, .ref (B + 51)), (3, .int (nI (5 * t)))] [.int v, .int v]
  refine a_icmp_eq hb 1131 dL_law_216 (by decide) (fun c => ?_) (fun c => absurd rfl c)
  exact AW.wide (by omega) (by omega) (K h2 hi_)
theorem lw_c1 {V : VV} {b B Ln t cs ss : Nat} {xs : Nat → Int32} {h : AH} (hb : V.2.1.2.1 = code) (ow : V.2.1.1.cls = RL) (hr : V.2.2.1 = room_1) (hx : gX V.1 = (b, Ln, xs)) (ht : 5 * t + 5 ≤ Ln) (hl : Ln ≤ 320) (hc : cs ≤ 1000 ∧ ss ≤ 100000) (H : INV h B) (K : ∀ h', INV h' B → AW V (cs + 6) (ss + 271) h' 1131 [(0, .ref b), (1, .ref B), (2, .ref (B + 51)), (3, .int (nI (5 * t)))] []) : AW V cs ss h 221 [(0, .ref b), (1, .ref B), (2, .ref (B + 51)), (3, .int (nI (5 * t)))] [] := by
  obtain ⟨v, K_, dx, mc, ms, dm, ⟨q1, q2, q3, q4⟩, mx, mm⟩ := s_of V.1 h B H (xs (5 * t + 1)) (xs (5 * t + 2))
  refine a_aload_n hb dL_law_221 rfl 1 rfl ?_
  refine a_aload_n hb dL_law_222 rfl 0 rfl ?_
  refine a_iload_n hb dL_law_223 rfl 3 rfl ?_
  refine a_iconst (v := 1) hb dL_law_224 (by decide) ?_
  refine a_iadd hb dL_law_225 ?_
  refine b_lds (j := 5 * t + 1) hb hx dL_law_226 (IX.add (IX.n (by omega)) ⟨by decide, by decide⟩ (by omega)) (by omega) ?_
  refine a_aload_n hb dL_law_227 rfl 0 rfl ?_
  refine a_iload_n hb dL_law_228 rfl 3 rfl ?_
  refine a_iconst (v := 2) hb dL_law_229 (by decide) ?_
  refine a_iadd hb dL_law_230 ?_
  refine b_lds (j := 5 * t + 2) hb hx dL_law_231 (IX.add (IX.n (by omega)) ⟨by decide, by decide⟩ (by omega)) (by omega) ?_
  refine a_callV hb dL_law_232 mx (by rw [ow]; exact clv_RL_18) (H.1.1 0 (by decide)) (by decide) rfl rfl rfl (Nat.le_of_ble_eq_true rfl) (by rw [hr]; exact ⟨show dx + 1 ≤ 2048 from by omega, show 8 + (4 + 11) + 64 * dx ≤ 84000 from by omega⟩) (by rw [hr]; exact ⟨show cs + mc ≤ 600000 from by omega, show ss + ms ≤ 7302250 from by omega⟩) ?_
  intro rv h1 hq_
  obtain ⟨hv_, hk_⟩ := hq_
  subst hv_
  obtain ⟨l1, am2⟩ := mm h1 hk_
  show AW V (cs + mc) (ss + ms) h1 235 [(0, .ref b), (1, .ref B), (2, .ref (B + 51)), (3, .int (nI (5 * t)))] [.int v]
  refine a_aload_n hb dL_law_235 rfl 2 rfl ?_
  refine a_aload_n hb dL_law_236 rfl 0 rfl ?_
  refine a_iload_n hb dL_law_237 rfl 3 rfl ?_
  refine a_iconst (v := 1) hb dL_law_238 (by decide) ?_
  refine a_iadd hb dL_law_239 ?_
  refine b_lds (j := 5 * t + 1) hb hx dL_law_240 (IX.add (IX.n (by omega)) ⟨by decide, by decide⟩ (by omega)) (by omega) ?_
  refine a_aload_n hb dL_law_241 rfl 0 rfl ?_
  refine a_iload_n hb dL_law_242 rfl 3 rfl ?_
  refine a_iconst (v := 2) hb dL_law_243 (by decide) ?_
  refine a_iadd hb dL_law_244 ?_
  refine b_lds (j := 5 * t + 2) hb hx dL_law_245 (IX.add (IX.n (by omega)) ⟨by decide, by decide⟩ (by omega)) (by omega) ?_
  refine a_callV hb dL_law_246 am2 (by rw [ow]; exact clv_RL_22) (l1.1 51 (by decide)) (by decide) rfl rfl rfl (Nat.le_of_ble_eq_true rfl) (by rw [hr]; exact ⟨show dm + 1 ≤ 2048 from by omega, show 8 + (3 + 11) + 64 * dm ≤ 84000 from by omega⟩) (by rw [hr]; exact ⟨show cs + mc + 0 ≤ 600000 from by omega, show ss + ms + 0 ≤ 7302250 from by omega⟩) ?_
  intro rv h2 hq_
  obtain ⟨hv_, hi_⟩ := hq_
  subst hv_
  show AW V (cs + mc) (ss + ms) h2 249 [(0, .ref b), (1, .ref B), (2, .ref (B + 51)), (3, .int (nI (5 * t)))] [.int v, .int v]
  refine a_icmp_eq hb 1131 dL_law_249 (by decide) (fun c => ?_) (fun c => absurd rfl c)
  exact AW.wide (by omega) (by omega) (K h2 hi_)
theorem lw_c2 {V : VV} {b B Ln t cs ss : Nat} {xs : Nat → Int32} {h : AH} (hb : V.2.1.2.1 = code) (ow : V.2.1.1.cls = RL) (hr : V.2.2.1 = room_1) (hx : gX V.1 = (b, Ln, xs)) (ht : 5 * t + 5 ≤ Ln) (hl : Ln ≤ 320) (hc : cs ≤ 1000 ∧ ss ≤ 100000) (H : INV h B) (K : ∀ h', INV h' B → AW V (cs + 6) (ss + 271) h' 1131 [(0, .ref b), (1, .ref B), (2, .ref (B + 51)), (3, .int (nI (5 * t)))] []) : AW V cs ss h 254 [(0, .ref b), (1, .ref B), (2, .ref (B + 51)), (3, .int (nI (5 * t)))] [] := by
  obtain ⟨v, K_, dx, mc, ms, dm, ⟨q1, q2, q3, q4⟩, mx, mm⟩ := s_set V.1 h B H (xs (5 * t + 1)) (xs (5 * t + 2))
  refine a_aload_n hb dL_law_254 rfl 1 rfl ?_
  refine a_aload_n hb dL_law_255 rfl 0 rfl ?_
  refine a_iload_n hb dL_law_256 rfl 3 rfl ?_
  refine a_iconst (v := 1) hb dL_law_257 (by decide) ?_
  refine a_iadd hb dL_law_258 ?_
  refine b_lds (j := 5 * t + 1) hb hx dL_law_259 (IX.add (IX.n (by omega)) ⟨by decide, by decide⟩ (by omega)) (by omega) ?_
  refine a_aload_n hb dL_law_260 rfl 0 rfl ?_
  refine a_iload_n hb dL_law_261 rfl 3 rfl ?_
  refine a_iconst (v := 2) hb dL_law_262 (by decide) ?_
  refine a_iadd hb dL_law_263 ?_
  refine b_lds (j := 5 * t + 2) hb hx dL_law_264 (IX.add (IX.n (by omega)) ⟨by decide, by decide⟩ (by omega)) (by omega) ?_
  refine a_callV hb dL_law_265 mx (by rw [ow]; exact clv_RL_23) (H.1.1 0 (by decide)) (by decide) rfl rfl rfl (Nat.le_of_ble_eq_true rfl) (by rw [hr]; exact ⟨show dx + 1 ≤ 2048 from by omega, show 8 + (4 + 11) + 64 * dx ≤ 84000 from by omega⟩) (by rw [hr]; exact ⟨show cs + mc ≤ 600000 from by omega, show ss + ms ≤ 7302250 from by omega⟩) ?_
  intro rv h1 hq_
  obtain ⟨hv_, hk_⟩ := hq_
  subst hv_
  obtain ⟨l1, am2⟩ := mm h1 hk_
  show AW V (cs + mc) (ss + ms) h1 268 [(0, .ref b), (1, .ref B), (2, .ref (B + 51)), (3, .int (nI (5 * t)))] [.int v]
  refine a_aload_n hb dL_law_268 rfl 2 rfl ?_
  refine a_aload_n hb dL_law_269 rfl 0 rfl ?_
  refine a_iload_n hb dL_law_270 rfl 3 rfl ?_
  refine a_iconst (v := 1) hb dL_law_271 (by decide) ?_
  refine a_iadd hb dL_law_272 ?_
  refine b_lds (j := 5 * t + 1) hb hx dL_law_273 (IX.add (IX.n (by omega)) ⟨by decide, by decide⟩ (by omega)) (by omega) ?_
  refine a_aload_n hb dL_law_274 rfl 0 rfl ?_
  refine a_iload_n hb dL_law_275 rfl 3 rfl ?_
  refine a_iconst (v := 2) hb dL_law_276 (by decide) ?_
  refine a_iadd hb dL_law_277 ?_
  refine b_lds (j := 5 * t + 2) hb hx dL_law_278 (IX.add (IX.n (by omega)) ⟨by decide, by decide⟩ (by omega)) (by omega) ?_
  refine a_callV hb dL_law_279 am2 (by rw [ow]; exact clv_RL_26) (l1.1 51 (by decide)) (by decide) rfl rfl rfl (Nat.le_of_ble_eq_true rfl) (by rw [hr]; exact ⟨show dm + 1 ≤ 2048 from by omega, show 8 + (4 + 11) + 64 * dm ≤ 84000 from by omega⟩) (by rw [hr]; exact ⟨show cs + mc + 0 ≤ 600000 from by omega, show ss + ms + 0 ≤ 7302250 from by omega⟩) ?_
  intro rv h2 hq_
  obtain ⟨hv_, hi_⟩ := hq_
  subst hv_
  show AW V (cs + mc) (ss + ms) h2 282 [(0, .ref b), (1, .ref B), (2, .ref (B + 51)), (3, .int (nI (5 * t)))] [.int v, .int v]
  refine a_icmp_eq hb 1131 dL_law_282 (by decide) (fun c => ?_) (fun c => absurd rfl c)
  exact AW.wide (by omega) (by omega) (K h2 hi_)
theorem lw_c3 {V : VV} {b B Ln t cs ss : Nat} {xs : Nat → Int32} {h : AH} (hb : V.2.1.2.1 = code) (ow : V.2.1.1.cls = RL) (hr : V.2.2.1 = room_1) (hx : gX V.1 = (b, Ln, xs)) (ht : 5 * t + 5 ≤ Ln) (hl : Ln ≤ 320) (hc : cs ≤ 1000 ∧ ss ≤ 100000) (H : INV h B) (K : ∀ h', INV h' B → AW V (cs + 6) (ss + 271) h' 1131 [(0, .ref b), (1, .ref B), (2, .ref (B + 51)), (3, .int (nI (5 * t)))] []) : AW V cs ss h 287 [(0, .ref b), (1, .ref B), (2, .ref (B + 51)), (3, .int (nI (5 * t)))] [] := by
  obtain ⟨v, K_, dx, mc, ms, dm, ⟨q1, q2, q3, q4⟩, mx, mm⟩ := s_later V.1 h B H (xs (5 * t + 1)) (xs (5 * t + 2)) (xs (5 * t + 3))
  refine a_aload_n hb dL_law_287 rfl 1 rfl ?_
  refine a_aload_n hb dL_law_288 rfl 0 rfl ?_
  refine a_iload_n hb dL_law_289 rfl 3 rfl ?_
  refine a_iconst (v := 1) hb dL_law_290 (by decide) ?_
  refine a_iadd hb dL_law_291 ?_
  refine b_lds (j := 5 * t + 1) hb hx dL_law_292 (IX.add (IX.n (by omega)) ⟨by decide, by decide⟩ (by omega)) (by omega) ?_
  refine a_aload_n hb dL_law_293 rfl 0 rfl ?_
  refine a_iload_n hb dL_law_294 rfl 3 rfl ?_
  refine a_iconst (v := 2) hb dL_law_295 (by decide) ?_
  refine a_iadd hb dL_law_296 ?_
  refine b_lds (j := 5 * t + 2) hb hx dL_law_297 (IX.add (IX.n (by omega)) ⟨by decide, by decide⟩ (by omega)) (by omega) ?_
  refine a_aload_n hb dL_law_298 rfl 0 rfl ?_
  refine a_iload_n hb dL_law_299 rfl 3 rfl ?_
  refine a_iconst (v := 3) hb dL_law_300 (by decide) ?_
  refine a_iadd hb dL_law_301 ?_
  refine b_lds (j := 5 * t + 3) hb hx dL_law_302 (IX.add (IX.n (by omega)) ⟨by decide, by decide⟩ (by omega)) (by omega) ?_
  refine a_callV hb dL_law_303 mx (by rw [ow]; exact clv_RL_27) (H.1.1 0 (by decide)) (by decide) rfl rfl rfl (Nat.le_of_ble_eq_true rfl) (by rw [hr]; exact ⟨show dx + 1 ≤ 2048 from by omega, show 8 + (4 + 11) + 64 * dx ≤ 84000 from by omega⟩) (by rw [hr]; exact ⟨show cs + mc ≤ 600000 from by omega, show ss + ms ≤ 7302250 from by omega⟩) ?_
  intro rv h1 hq_
  obtain ⟨hv_, hk_⟩ := hq_
  subst hv_
  obtain ⟨l1, am2⟩ := mm h1 hk_
  show AW V (cs + mc) (ss + ms) h1 306 [(0, .ref b), (1, .ref B), (2, .ref (B + 51)), (3, .int (nI (5 * t)))] [.int v]
  refine a_aload_n hb dL_law_306 rfl 2 rfl ?_
  refine a_aload_n hb dL_law_307 rfl 0 rfl ?_
  refine a_iload_n hb dL_law_308 rfl 3 rfl ?_
  refine a_iconst (v := 1) hb dL_law_309 (by decide) ?_
  refine a_iadd hb dL_law_310 ?_
  refine b_lds (j := 5 * t + 1) hb hx dL_law_311 (IX.add (IX.n (by omega)) ⟨by decide, by decide⟩ (by omega)) (by omega) ?_
  refine a_aload_n hb dL_law_312 rfl 0 rfl ?_
  refine a_iload_n hb dL_law_313 rfl 3 rfl ?_
  refine a_iconst (v := 2) hb dL_law_314 (by decide) ?_
  refine a_iadd hb dL_law_315 ?_
  refine b_lds (j := 5 * t + 2) hb hx dL_law_316 (IX.add (IX.n (by omega)) ⟨by decide, by decide⟩ (by omega)) (by omega) ?_
  refine a_aload_n hb dL_law_317 rfl 0 rfl ?_
  refine a_iload_n hb dL_law_318 rfl 3 rfl ?_
  refine a_iconst (v := 3) hb dL_law_319 (by decide) ?_
  refine a_iadd hb dL_law_320 ?_
  refine b_lds (j := 5 * t + 3) hb hx dL_law_321 (IX.add (IX.n (by omega)) ⟨by decide, by decide⟩ (by omega)) (by omega) ?_
  refine a_callV hb dL_law_322 am2 (by rw [ow]; exact clv_RL_31) (l1.1 51 (by decide)) (by decide) rfl rfl rfl (Nat.le_of_ble_eq_true rfl) (by rw [hr]; exact ⟨show dm + 1 ≤ 2048 from by omega, show 8 + (4 + 11) + 64 * dm ≤ 84000 from by omega⟩) (by rw [hr]; exact ⟨show cs + mc + 0 ≤ 600000 from by omega, show ss + ms + 0 ≤ 7302250 from by omega⟩) ?_
  intro rv h2 hq_
  obtain ⟨hv_, hi_⟩ := hq_
  subst hv_
  show AW V (cs + mc) (ss + ms) h2 325 [(0, .ref b), (1, .ref B), (2, .ref (B + 51)), (3, .int (nI (5 * t)))] [.int v, .int v]
  refine a_icmp_eq hb 1131 dL_law_325 (by decide) (fun c => ?_) (fun c => absurd rfl c)
  exact AW.wide (by omega) (by omega) (K h2 hi_)
theorem lw_c4 {V : VV} {b B Ln t cs ss : Nat} {xs : Nat → Int32} {h : AH} (hb : V.2.1.2.1 = code) (ow : V.2.1.1.cls = RL) (hr : V.2.2.1 = room_1) (hx : gX V.1 = (b, Ln, xs)) (ht : 5 * t + 5 ≤ Ln) (hl : Ln ≤ 320) (hc : cs ≤ 1000 ∧ ss ≤ 100000) (H : INV h B) (K : ∀ h', INV h' B → AW V (cs + 6) (ss + 271) h' 1131 [(0, .ref b), (1, .ref B), (2, .ref (B + 51)), (3, .int (nI (5 * t)))] []) : AW V cs ss h 330 [(0, .ref b), (1, .ref B), (2, .ref (B + 51)), (3, .int (nI (5 * t)))] [] := by
  obtain ⟨v, K_, dx, mc, ms, dm, ⟨q1, q2, q3, q4⟩, mx, mm⟩ := s_feed V.1 h B H (((xs (5 * t + 1)).toInt64 <<< ((32 : Int32).toInt64 &&& 63)) ||| ((xs (5 * t + 2)).toInt64 &&& 4294967295)) (xs (5 * t + 3))
  refine a_aload_n hb dL_law_330 rfl 1 rfl ?_
  refine a_aload_n hb dL_law_331 rfl 0 rfl ?_
  refine a_iload_n hb dL_law_332 rfl 3 rfl ?_
  refine a_iconst (v := 1) hb dL_law_333 (by decide) ?_
  refine a_iadd hb dL_law_334 ?_
  refine b_lds (j := 5 * t + 1) hb hx dL_law_335 (IX.add (IX.n (by omega)) ⟨by decide, by decide⟩ (by omega)) (by omega) ?_
  refine a_i2l hb dL_law_336 rfl ?_
  refine a_bipush (v := 32) hb dL_law_337 (by decide) ?_
  refine a_lshl hb dL_law_339 rfl ?_
  refine a_aload_n hb dL_law_340 rfl 0 rfl ?_
  refine a_iload_n hb dL_law_341 rfl 3 rfl ?_
  refine a_iconst (v := 2) hb dL_law_342 (by decide) ?_
  refine a_iadd hb dL_law_343 ?_
  refine b_lds (j := 5 * t + 2) hb hx dL_law_344 (IX.add (IX.n (by omega)) ⟨by decide, by decide⟩ (by omega)) (by omega) ?_
  refine a_i2l hb dL_law_345 rfl ?_
  refine a_ldc2 (v := 4294967295) hb dL_law_346 (by rw [ow]; exact kw_1413) ?_
  refine a_land hb dL_law_349 ?_
  refine a_lor hb dL_law_350 ?_
  refine a_aload_n hb dL_law_351 rfl 0 rfl ?_
  refine a_iload_n hb dL_law_352 rfl 3 rfl ?_
  refine a_iconst (v := 3) hb dL_law_353 (by decide) ?_
  refine a_iadd hb dL_law_354 ?_
  refine b_lds (j := 5 * t + 3) hb hx dL_law_355 (IX.add (IX.n (by omega)) ⟨by decide, by decide⟩ (by omega)) (by omega) ?_
  refine a_callV hb dL_law_356 mx (by rw [ow]; exact clv_RL_34) (H.1.1 0 (by decide)) (by decide) rfl rfl rfl (Nat.le_of_ble_eq_true rfl) (by rw [hr]; exact ⟨show dx + 1 ≤ 2048 from by omega, show 8 + (5 + 11) + 64 * dx ≤ 84000 from by omega⟩) (by rw [hr]; exact ⟨show cs + mc ≤ 600000 from by omega, show ss + ms ≤ 7302250 from by omega⟩) ?_
  intro rv h1 hq_
  obtain ⟨hv_, hk_⟩ := hq_
  subst hv_
  obtain ⟨l1, am2⟩ := mm h1 hk_
  show AW V (cs + mc) (ss + ms) h1 359 [(0, .ref b), (1, .ref B), (2, .ref (B + 51)), (3, .int (nI (5 * t)))] [.int v]
  refine a_aload_n hb dL_law_359 rfl 2 rfl ?_
  refine a_aload_n hb dL_law_360 rfl 0 rfl ?_
  refine a_iload_n hb dL_law_361 rfl 3 rfl ?_
  refine a_iconst (v := 1) hb dL_law_362 (by decide) ?_
  refine a_iadd hb dL_law_363 ?_
  refine b_lds (j := 5 * t + 1) hb hx dL_law_364 (IX.add (IX.n (by omega)) ⟨by decide, by decide⟩ (by omega)) (by omega) ?_
  refine a_i2l hb dL_law_365 rfl ?_
  refine a_bipush (v := 32) hb dL_law_366 (by decide) ?_
  refine a_lshl hb dL_law_368 rfl ?_
  refine a_aload_n hb dL_law_369 rfl 0 rfl ?_
  refine a_iload_n hb dL_law_370 rfl 3 rfl ?_
  refine a_iconst (v := 2) hb dL_law_371 (by decide) ?_
  refine a_iadd hb dL_law_372 ?_
  refine b_lds (j := 5 * t + 2) hb hx dL_law_373 (IX.add (IX.n (by omega)) ⟨by decide, by decide⟩ (by omega)) (by omega) ?_
  refine a_i2l hb dL_law_374 rfl ?_
  refine a_ldc2 (v := 4294967295) hb dL_law_375 (by rw [ow]; exact kw_1413) ?_
  refine a_land hb dL_law_378 ?_
  refine a_lor hb dL_law_379 ?_
  refine a_aload_n hb dL_law_380 rfl 0 rfl ?_
  refine a_iload_n hb dL_law_381 rfl 3 rfl ?_
  refine a_iconst (v := 3) hb dL_law_382 (by decide) ?_
  refine a_iadd hb dL_law_383 ?_
  refine b_lds (j := 5 * t + 3) hb hx dL_law_384 (IX.add (IX.n (by omega)) ⟨by decide, by decide⟩ (by omega)) (by omega) ?_
  refine a_callV hb dL_law_385 am2 (by rw [ow]; exact clv_RL_38) (l1.1 51 (by decide)) (by decide) rfl rfl rfl (Nat.le_of_ble_eq_true rfl) (by rw [hr]; exact ⟨show dm + 1 ≤ 2048 from by omega, show 8 + (5 + 11) + 64 * dm ≤ 84000 from by omega⟩) (by rw [hr]; exact ⟨show cs + mc + 0 ≤ 600000 from by omega, show ss + ms + 0 ≤ 7302250 from by omega⟩) ?_
  intro rv h2 hq_
  obtain ⟨hv_, hi_⟩ := hq_
  subst hv_
  show AW V (cs + mc) (ss + ms) h2 388 [(0, .ref b), (1, .ref B), (2, .ref (B + 51)), (3, .int (nI (5 * t)))] [.int v, .int v]
  refine a_icmp_eq hb 1131 dL_law_388 (by decide) (fun c => ?_) (fun c => absurd rfl c)
  exact AW.wide (by omega) (by omega) (K h2 hi_)
theorem lw_c5 {V : VV} {b B Ln t cs ss : Nat} {xs : Nat → Int32} {h : AH} (hb : V.2.1.2.1 = code) (ow : V.2.1.1.cls = RL) (hr : V.2.2.1 = room_1) (hx : gX V.1 = (b, Ln, xs)) (ht : 5 * t + 5 ≤ Ln) (hl : Ln ≤ 320) (hc : cs ≤ 1000 ∧ ss ≤ 100000) (H : INV h B) (K : ∀ h', INV h' B → AW V (cs + 6) (ss + 271) h' 1131 [(0, .ref b), (1, .ref B), (2, .ref (B + 51)), (3, .int (nI (5 * t)))] []) : AW V cs ss h 393 [(0, .ref b), (1, .ref B), (2, .ref (B + 51)), (3, .int (nI (5 * t)))] [] := by
  obtain ⟨v, K_, dx, mc, ms, dm, ⟨q1, q2, q3, q4⟩, mx, mm⟩ := s_law V.1 h B H 
  refine a_aload_n hb dL_law_393 rfl 1 rfl ?_
  refine a_callV hb dL_law_394 mx (by rw [ow]; exact clv_RL_39) (H.1.1 0 (by decide)) (by decide) rfl rfl rfl (Nat.le_of_ble_eq_true rfl) (by rw [hr]; exact ⟨show dx + 1 ≤ 2048 from by omega, show 8 + (2 + 11) + 64 * dx ≤ 84000 from by omega⟩) (by rw [hr]; exact ⟨show cs + mc ≤ 600000 from by omega, show ss + ms ≤ 7302250 from by omega⟩) ?_
  intro rv h1 hq_
  obtain ⟨hv_, hk_⟩ := hq_
  subst hv_
  obtain ⟨l1, am2⟩ := mm h1 hk_
  show AW V (cs + mc) (ss + ms) h1 397 [(0, .ref b), (1, .ref B), (2, .ref (B + 51)), (3, .int (nI (5 * t)))] [.int v]
  refine a_aload_n hb dL_law_397 rfl 2 rfl ?_
  refine a_callV hb dL_law_398 am2 (by rw [ow]; exact clv_RL_43) (l1.1 51 (by decide)) (by decide) rfl rfl rfl (Nat.le_of_ble_eq_true rfl) (by rw [hr]; exact ⟨show dm + 1 ≤ 2048 from by omega, show 8 + (2 + 11) + 64 * dm ≤ 84000 from by omega⟩) (by rw [hr]; exact ⟨show cs + mc + 0 ≤ 600000 from by omega, show ss + ms + 0 ≤ 7302250 from by omega⟩) ?_
  intro rv h2 hq_
  obtain ⟨hv_, hi_⟩ := hq_
  subst hv_
  show AW V (cs + mc) (ss + ms) h2 401 [(0, .ref b), (1, .ref B), (2, .ref (B + 51)), (3, .int (nI (5 * t)))] [.int v, .int v]
  refine a_icmp_eq hb 1131 dL_law_401 (by decide) (fun c => ?_) (fun c => absurd rfl c)
  exact AW.wide (by omega) (by omega) (K h2 hi_)
theorem lw_c6 {V : VV} {b B Ln t cs ss : Nat} {xs : Nat → Int32} {h : AH} (hb : V.2.1.2.1 = code) (ow : V.2.1.1.cls = RL) (hr : V.2.2.1 = room_1) (hx : gX V.1 = (b, Ln, xs)) (ht : 5 * t + 5 ≤ Ln) (hl : Ln ≤ 320) (hc : cs ≤ 1000 ∧ ss ≤ 100000) (H : INV h B) (K : ∀ h', INV h' B → AW V (cs + 6) (ss + 271) h' 1131 [(0, .ref b), (1, .ref B), (2, .ref (B + 51)), (3, .int (nI (5 * t)))] []) : AW V cs ss h 406 [(0, .ref b), (1, .ref B), (2, .ref (B + 51)), (3, .int (nI (5 * t)))] [] := by
  obtain ⟨v, K_, dx, mc, ms, dm, ⟨q1, q2, q3, q4⟩, mx, mm⟩ := s_drawn V.1 h B H (xs (5 * t + 1)) (xs (5 * t + 2))
  refine a_aload_n hb dL_law_406 rfl 1 rfl ?_
  refine a_aload_n hb dL_law_407 rfl 0 rfl ?_
  refine a_iload_n hb dL_law_408 rfl 3 rfl ?_
  refine a_iconst (v := 1) hb dL_law_409 (by decide) ?_
  refine a_iadd hb dL_law_410 ?_
  refine b_lds (j := 5 * t + 1) hb hx dL_law_411 (IX.add (IX.n (by omega)) ⟨by decide, by decide⟩ (by omega)) (by omega) ?_
  refine a_aload_n hb dL_law_412 rfl 0 rfl ?_
  refine a_iload_n hb dL_law_413 rfl 3 rfl ?_
  refine a_iconst (v := 2) hb dL_law_414 (by decide) ?_
  refine a_iadd hb dL_law_415 ?_
  refine b_lds (j := 5 * t + 2) hb hx dL_law_416 (IX.add (IX.n (by omega)) ⟨by decide, by decide⟩ (by omega)) (by omega) ?_
  refine a_callV hb dL_law_417 mx (by rw [ow]; exact clv_RL_44) (H.1.1 0 (by decide)) (by decide) rfl rfl rfl (Nat.le_of_ble_eq_true rfl) (by rw [hr]; exact ⟨show dx + 1 ≤ 2048 from by omega, show 8 + (4 + 11) + 64 * dx ≤ 84000 from by omega⟩) (by rw [hr]; exact ⟨show cs + mc ≤ 600000 from by omega, show ss + ms ≤ 7302250 from by omega⟩) ?_
  intro rv h1 hq_
  obtain ⟨hv_, hk_⟩ := hq_
  subst hv_
  obtain ⟨l1, am2⟩ := mm h1 hk_
  show AW V (cs + mc) (ss + ms) h1 420 [(0, .ref b), (1, .ref B), (2, .ref (B + 51)), (3, .int (nI (5 * t)))] [.int v]
  refine a_aload_n hb dL_law_420 rfl 2 rfl ?_
  refine a_aload_n hb dL_law_421 rfl 0 rfl ?_
  refine a_iload_n hb dL_law_422 rfl 3 rfl ?_
  refine a_iconst (v := 1) hb dL_law_423 (by decide) ?_
  refine a_iadd hb dL_law_424 ?_
  refine b_lds (j := 5 * t + 1) hb hx dL_law_425 (IX.add (IX.n (by omega)) ⟨by decide, by decide⟩ (by omega)) (by omega) ?_
  refine a_aload_n hb dL_law_426 rfl 0 rfl ?_
  refine a_iload_n hb dL_law_427 rfl 3 rfl ?_
  refine a_iconst (v := 2) hb dL_law_428 (by decide) ?_
  refine a_iadd hb dL_law_429 ?_
  refine b_lds (j := 5 * t + 2) hb hx dL_law_430 (IX.add (IX.n (by omega)) ⟨by decide, by decide⟩ (by omega)) (by omega) ?_
  refine a_callV hb dL_law_431 am2 (by rw [ow]; exact clv_RL_47) (l1.1 51 (by decide)) (by decide) rfl rfl rfl (Nat.le_of_ble_eq_true rfl) (by rw [hr]; exact ⟨show dm + 1 ≤ 2048 from by omega, show 8 + (3 + 11) + 64 * dm ≤ 84000 from by omega⟩) (by rw [hr]; exact ⟨show cs + mc + 0 ≤ 600000 from by omega, show ss + ms + 0 ≤ 7302250 from by omega⟩) ?_
  intro rv h2 hq_
  obtain ⟨hv_, hi_⟩ := hq_
  subst hv_
  show AW V (cs + mc) (ss + ms) h2 434 [(0, .ref b), (1, .ref B), (2, .ref (B + 51)), (3, .int (nI (5 * t)))] [.int v, .int v]
  refine a_icmp_eq hb 1131 dL_law_434 (by decide) (fun c => ?_) (fun c => absurd rfl c)
  exact AW.wide (by omega) (by omega) (K h2 hi_)
theorem lw_c7 {V : VV} {b B Ln t cs ss : Nat} {xs : Nat → Int32} {h : AH} (hb : V.2.1.2.1 = code) (ow : V.2.1.1.cls = RL) (hr : V.2.2.1 = room_1) (hx : gX V.1 = (b, Ln, xs)) (ht : 5 * t + 5 ≤ Ln) (hl : Ln ≤ 320) (hc : cs ≤ 1000 ∧ ss ≤ 100000) (H : INV h B) (K : ∀ h', INV h' B → AW V (cs + 6) (ss + 271) h' 1131 [(0, .ref b), (1, .ref B), (2, .ref (B + 51)), (3, .int (nI (5 * t)))] []) : AW V cs ss h 439 [(0, .ref b), (1, .ref B), (2, .ref (B + 51)), (3, .int (nI (5 * t)))] [] := by
  obtain ⟨v, K_, dx, mc, ms, dm, ⟨q1, q2, q3, q4⟩, mx, mm⟩ := s_demand V.1 h B H (xs (5 * t + 1))
  refine a_aload_n hb dL_law_439 rfl 1 rfl ?_
  refine a_aload_n hb dL_law_440 rfl 0 rfl ?_
  refine a_iload_n hb dL_law_441 rfl 3 rfl ?_
  refine a_iconst (v := 1) hb dL_law_442 (by decide) ?_
  refine a_iadd hb dL_law_443 ?_
  refine b_lds (j := 5 * t + 1) hb hx dL_law_444 (IX.add (IX.n (by omega)) ⟨by decide, by decide⟩ (by omega)) (by omega) ?_
  refine a_callV hb dL_law_445 mx (by rw [ow]; exact clv_RL_48) (H.1.1 0 (by decide)) (by decide) rfl rfl rfl (Nat.le_of_ble_eq_true rfl) (by rw [hr]; exact ⟨show dx + 1 ≤ 2048 from by omega, show 8 + (2 + 11) + 64 * dx ≤ 84000 from by omega⟩) (by rw [hr]; exact ⟨show cs + mc ≤ 600000 from by omega, show ss + ms ≤ 7302250 from by omega⟩) ?_
  intro rv h1 hq_
  obtain ⟨hv_, hk_⟩ := hq_
  subst hv_
  obtain ⟨l1, am2⟩ := mm h1 hk_
  show AW V (cs + mc) (ss + ms) h1 448 [(0, .ref b), (1, .ref B), (2, .ref (B + 51)), (3, .int (nI (5 * t)))] [.int v]
  refine a_aload_n hb dL_law_448 rfl 2 rfl ?_
  refine a_aload_n hb dL_law_449 rfl 0 rfl ?_
  refine a_iload_n hb dL_law_450 rfl 3 rfl ?_
  refine a_iconst (v := 1) hb dL_law_451 (by decide) ?_
  refine a_iadd hb dL_law_452 ?_
  refine b_lds (j := 5 * t + 1) hb hx dL_law_453 (IX.add (IX.n (by omega)) ⟨by decide, by decide⟩ (by omega)) (by omega) ?_
  refine a_callV hb dL_law_454 am2 (by rw [ow]; exact clv_RL_52) (l1.1 51 (by decide)) (by decide) rfl rfl rfl (Nat.le_of_ble_eq_true rfl) (by rw [hr]; exact ⟨show dm + 1 ≤ 2048 from by omega, show 8 + (2 + 11) + 64 * dm ≤ 84000 from by omega⟩) (by rw [hr]; exact ⟨show cs + mc + 0 ≤ 600000 from by omega, show ss + ms + 0 ≤ 7302250 from by omega⟩) ?_
  intro rv h2 hq_
  obtain ⟨hv_, hi_⟩ := hq_
  subst hv_
  show AW V (cs + mc) (ss + ms) h2 457 [(0, .ref b), (1, .ref B), (2, .ref (B + 51)), (3, .int (nI (5 * t)))] [.int v, .int v]
  refine a_icmp_eq hb 1131 dL_law_457 (by decide) (fun c => ?_) (fun c => absurd rfl c)
  exact AW.wide (by omega) (by omega) (K h2 hi_)
theorem lw_c8 {V : VV} {b B Ln t cs ss : Nat} {xs : Nat → Int32} {h : AH} (hb : V.2.1.2.1 = code) (ow : V.2.1.1.cls = RL) (hr : V.2.2.1 = room_1) (hx : gX V.1 = (b, Ln, xs)) (ht : 5 * t + 5 ≤ Ln) (hl : Ln ≤ 320) (hc : cs ≤ 1000 ∧ ss ≤ 100000) (H : INV h B) (K : ∀ h', INV h' B → AW V (cs + 6) (ss + 271) h' 1131 [(0, .ref b), (1, .ref B), (2, .ref (B + 51)), (3, .int (nI (5 * t)))] []) : AW V cs ss h 462 [(0, .ref b), (1, .ref B), (2, .ref (B + 51)), (3, .int (nI (5 * t)))] [] := by
  obtain ⟨v, K_, dx, mc, ms, dm, ⟨q1, q2, q3, q4⟩, mx, mm⟩ := s_work V.1 h B H (xs (5 * t + 1)) (xs (5 * t + 2)) (xs (5 * t + 3)) (xs (5 * t + 4))
  refine a_aload_n hb dL_law_462 rfl 1 rfl ?_
  refine a_aload_n hb dL_law_463 rfl 0 rfl ?_
  refine a_iload_n hb dL_law_464 rfl 3 rfl ?_
  refine a_iconst (v := 1) hb dL_law_465 (by decide) ?_
  refine a_iadd hb dL_law_466 ?_
  refine b_lds (j := 5 * t + 1) hb hx dL_law_467 (IX.add (IX.n (by omega)) ⟨by decide, by decide⟩ (by omega)) (by omega) ?_
  refine a_aload_n hb dL_law_468 rfl 0 rfl ?_
  refine a_iload_n hb dL_law_469 rfl 3 rfl ?_
  refine a_iconst (v := 2) hb dL_law_470 (by decide) ?_
  refine a_iadd hb dL_law_471 ?_
  refine b_lds (j := 5 * t + 2) hb hx dL_law_472 (IX.add (IX.n (by omega)) ⟨by decide, by decide⟩ (by omega)) (by omega) ?_
  refine a_aload_n hb dL_law_473 rfl 0 rfl ?_
  refine a_iload_n hb dL_law_474 rfl 3 rfl ?_
  refine a_iconst (v := 3) hb dL_law_475 (by decide) ?_
  refine a_iadd hb dL_law_476 ?_
  refine b_lds (j := 5 * t + 3) hb hx dL_law_477 (IX.add (IX.n (by omega)) ⟨by decide, by decide⟩ (by omega)) (by omega) ?_
  refine a_aload_n hb dL_law_478 rfl 0 rfl ?_
  refine a_iload_n hb dL_law_479 rfl 3 rfl ?_
  refine a_iconst (v := 4) hb dL_law_480 (by decide) ?_
  refine a_iadd hb dL_law_481 ?_
  refine b_lds (j := 5 * t + 4) hb hx dL_law_482 (IX.add (IX.n (by omega)) ⟨by decide, by decide⟩ (by omega)) (by omega) ?_
  refine a_callV hb dL_law_483 mx (by rw [ow]; exact clv_RL_53) (H.1.1 0 (by decide)) (by decide) rfl rfl rfl (Nat.le_of_ble_eq_true rfl) (by rw [hr]; exact ⟨show dx + 1 ≤ 2048 from by omega, show 8 + (5 + 11) + 64 * dx ≤ 84000 from by omega⟩) (by rw [hr]; exact ⟨show cs + mc ≤ 600000 from by omega, show ss + ms ≤ 7302250 from by omega⟩) ?_
  intro rv h1 hq_
  obtain ⟨hv_, hk_⟩ := hq_
  subst hv_
  obtain ⟨l1, am2⟩ := mm h1 hk_
  show AW V (cs + mc) (ss + ms) h1 486 [(0, .ref b), (1, .ref B), (2, .ref (B + 51)), (3, .int (nI (5 * t)))] [.int v]
  refine a_aload_n hb dL_law_486 rfl 2 rfl ?_
  refine a_aload_n hb dL_law_487 rfl 0 rfl ?_
  refine a_iload_n hb dL_law_488 rfl 3 rfl ?_
  refine a_iconst (v := 1) hb dL_law_489 (by decide) ?_
  refine a_iadd hb dL_law_490 ?_
  refine b_lds (j := 5 * t + 1) hb hx dL_law_491 (IX.add (IX.n (by omega)) ⟨by decide, by decide⟩ (by omega)) (by omega) ?_
  refine a_aload_n hb dL_law_492 rfl 0 rfl ?_
  refine a_iload_n hb dL_law_493 rfl 3 rfl ?_
  refine a_iconst (v := 2) hb dL_law_494 (by decide) ?_
  refine a_iadd hb dL_law_495 ?_
  refine b_lds (j := 5 * t + 2) hb hx dL_law_496 (IX.add (IX.n (by omega)) ⟨by decide, by decide⟩ (by omega)) (by omega) ?_
  refine a_aload_n hb dL_law_497 rfl 0 rfl ?_
  refine a_iload_n hb dL_law_498 rfl 3 rfl ?_
  refine a_iconst (v := 3) hb dL_law_499 (by decide) ?_
  refine a_iadd hb dL_law_500 ?_
  refine b_lds (j := 5 * t + 3) hb hx dL_law_501 (IX.add (IX.n (by omega)) ⟨by decide, by decide⟩ (by omega)) (by omega) ?_
  refine a_aload_n hb dL_law_502 rfl 0 rfl ?_
  refine a_iload_n hb dL_law_503 rfl 3 rfl ?_
  refine a_iconst (v := 4) hb dL_law_504 (by decide) ?_
  refine a_iadd hb dL_law_505 ?_
  refine b_lds (j := 5 * t + 4) hb hx dL_law_506 (IX.add (IX.n (by omega)) ⟨by decide, by decide⟩ (by omega)) (by omega) ?_
  refine a_callV hb dL_law_507 am2 (by rw [ow]; exact clv_RL_56) (l1.1 51 (by decide)) (by decide) rfl rfl rfl (Nat.le_of_ble_eq_true rfl) (by rw [hr]; exact ⟨show dm + 1 ≤ 2048 from by omega, show 8 + (6 + 11) + 64 * dm ≤ 84000 from by omega⟩) (by rw [hr]; exact ⟨show cs + mc + 0 ≤ 600000 from by omega, show ss + ms + 0 ≤ 7302250 from by omega⟩) ?_
  intro rv h2 hq_
  obtain ⟨hv_, hi_⟩ := hq_
  subst hv_
  show AW V (cs + mc) (ss + ms) h2 510 [(0, .ref b), (1, .ref B), (2, .ref (B + 51)), (3, .int (nI (5 * t)))] [.int v, .int v]
  refine a_icmp_eq hb 1131 dL_law_510 (by decide) (fun c => ?_) (fun c => absurd rfl c)
  exact AW.wide (by omega) (by omega) (K h2 hi_)
theorem lw_c9 {V : VV} {b B Ln t cs ss : Nat} {xs : Nat → Int32} {h : AH} (hb : V.2.1.2.1 = code) (ow : V.2.1.1.cls = RL) (hr : V.2.2.1 = room_1) (hx : gX V.1 = (b, Ln, xs)) (ht : 5 * t + 5 ≤ Ln) (hl : Ln ≤ 320) (hc : cs ≤ 1000 ∧ ss ≤ 100000) (H : INV h B) (K : ∀ h', INV h' B → AW V (cs + 6) (ss + 271) h' 1131 [(0, .ref b), (1, .ref B), (2, .ref (B + 51)), (3, .int (nI (5 * t)))] []) : AW V cs ss h 515 [(0, .ref b), (1, .ref B), (2, .ref (B + 51)), (3, .int (nI (5 * t)))] [] := by
  obtain ⟨v, K_, dx, mc, ms, dm, ⟨q1, q2, q3, q4⟩, mx, mm⟩ := s_call V.1 h B H (xs (5 * t + 1)) (xs (5 * t + 2)) (xs (5 * t + 3))
  refine a_aload_n hb dL_law_515 rfl 1 rfl ?_
  refine a_aload_n hb dL_law_516 rfl 0 rfl ?_
  refine a_iload_n hb dL_law_517 rfl 3 rfl ?_
  refine a_iconst (v := 1) hb dL_law_518 (by decide) ?_
  refine a_iadd hb dL_law_519 ?_
  refine b_lds (j := 5 * t + 1) hb hx dL_law_520 (IX.add (IX.n (by omega)) ⟨by decide, by decide⟩ (by omega)) (by omega) ?_
  refine a_aload_n hb dL_law_521 rfl 0 rfl ?_
  refine a_iload_n hb dL_law_522 rfl 3 rfl ?_
  refine a_iconst (v := 2) hb dL_law_523 (by decide) ?_
  refine a_iadd hb dL_law_524 ?_
  refine b_lds (j := 5 * t + 2) hb hx dL_law_525 (IX.add (IX.n (by omega)) ⟨by decide, by decide⟩ (by omega)) (by omega) ?_
  refine a_aload_n hb dL_law_526 rfl 0 rfl ?_
  refine a_iload_n hb dL_law_527 rfl 3 rfl ?_
  refine a_iconst (v := 3) hb dL_law_528 (by decide) ?_
  refine a_iadd hb dL_law_529 ?_
  refine b_lds (j := 5 * t + 3) hb hx dL_law_530 (IX.add (IX.n (by omega)) ⟨by decide, by decide⟩ (by omega)) (by omega) ?_
  refine a_callV hb dL_law_531 mx (by rw [ow]; exact clv_RL_57) (H.1.1 0 (by decide)) (by decide) rfl rfl rfl (Nat.le_of_ble_eq_true rfl) (by rw [hr]; exact ⟨show dx + 1 ≤ 2048 from by omega, show 8 + (6 + 11) + 64 * dx ≤ 84000 from by omega⟩) (by rw [hr]; exact ⟨show cs + mc ≤ 600000 from by omega, show ss + ms ≤ 7302250 from by omega⟩) ?_
  intro rv h1 hq_
  obtain ⟨hv_, hk_⟩ := hq_
  subst hv_
  obtain ⟨l1, am2⟩ := mm h1 hk_
  show AW V (cs + mc) (ss + ms) h1 534 [(0, .ref b), (1, .ref B), (2, .ref (B + 51)), (3, .int (nI (5 * t)))] [.int v]
  refine a_aload_n hb dL_law_534 rfl 2 rfl ?_
  refine a_aload_n hb dL_law_535 rfl 0 rfl ?_
  refine a_iload_n hb dL_law_536 rfl 3 rfl ?_
  refine a_iconst (v := 1) hb dL_law_537 (by decide) ?_
  refine a_iadd hb dL_law_538 ?_
  refine b_lds (j := 5 * t + 1) hb hx dL_law_539 (IX.add (IX.n (by omega)) ⟨by decide, by decide⟩ (by omega)) (by omega) ?_
  refine a_aload_n hb dL_law_540 rfl 0 rfl ?_
  refine a_iload_n hb dL_law_541 rfl 3 rfl ?_
  refine a_iconst (v := 2) hb dL_law_542 (by decide) ?_
  refine a_iadd hb dL_law_543 ?_
  refine b_lds (j := 5 * t + 2) hb hx dL_law_544 (IX.add (IX.n (by omega)) ⟨by decide, by decide⟩ (by omega)) (by omega) ?_
  refine a_aload_n hb dL_law_545 rfl 0 rfl ?_
  refine a_iload_n hb dL_law_546 rfl 3 rfl ?_
  refine a_iconst (v := 3) hb dL_law_547 (by decide) ?_
  refine a_iadd hb dL_law_548 ?_
  refine b_lds (j := 5 * t + 3) hb hx dL_law_549 (IX.add (IX.n (by omega)) ⟨by decide, by decide⟩ (by omega)) (by omega) ?_
  refine a_callV hb dL_law_550 am2 (by rw [ow]; exact clv_RL_60) (l1.1 51 (by decide)) (by decide) rfl rfl rfl (Nat.le_of_ble_eq_true rfl) (by rw [hr]; exact ⟨show dm + 1 ≤ 2048 from by omega, show 8 + (4 + 11) + 64 * dm ≤ 84000 from by omega⟩) (by rw [hr]; exact ⟨show cs + mc + 0 ≤ 600000 from by omega, show ss + ms + 0 ≤ 7302250 from by omega⟩) ?_
  intro rv h2 hq_
  obtain ⟨hv_, hi_⟩ := hq_
  subst hv_
  show AW V (cs + mc) (ss + ms) h2 553 [(0, .ref b), (1, .ref B), (2, .ref (B + 51)), (3, .int (nI (5 * t)))] [.int v, .int v]
  refine a_icmp_eq hb 1131 dL_law_553 (by decide) (fun c => ?_) (fun c => absurd rfl c)
  exact AW.wide (by omega) (by omega) (K h2 hi_)
theorem lw_c10 {V : VV} {b B Ln t cs ss : Nat} {xs : Nat → Int32} {h : AH} (hb : V.2.1.2.1 = code) (ow : V.2.1.1.cls = RL) (hr : V.2.2.1 = room_1) (hx : gX V.1 = (b, Ln, xs)) (ht : 5 * t + 5 ≤ Ln) (hl : Ln ≤ 320) (hc : cs ≤ 1000 ∧ ss ≤ 100000) (H : INV h B) (K : ∀ h', INV h' B → AW V (cs + 6) (ss + 271) h' 1131 [(0, .ref b), (1, .ref B), (2, .ref (B + 51)), (3, .int (nI (5 * t)))] []) : AW V cs ss h 558 [(0, .ref b), (1, .ref B), (2, .ref (B + 51)), (3, .int (nI (5 * t)))] [] := by
  obtain ⟨v, K_, dx, mc, ms, dm, ⟨q1, q2, q3, q4⟩, mx, mm⟩ := s_made V.1 h B H (xs (5 * t + 1))
  refine a_aload_n hb dL_law_558 rfl 1 rfl ?_
  refine a_aload_n hb dL_law_559 rfl 0 rfl ?_
  refine a_iload_n hb dL_law_560 rfl 3 rfl ?_
  refine a_iconst (v := 1) hb dL_law_561 (by decide) ?_
  refine a_iadd hb dL_law_562 ?_
  refine b_lds (j := 5 * t + 1) hb hx dL_law_563 (IX.add (IX.n (by omega)) ⟨by decide, by decide⟩ (by omega)) (by omega) ?_
  refine a_callV hb dL_law_564 mx (by rw [ow]; exact clv_RL_61) (H.1.1 0 (by decide)) (by decide) rfl rfl rfl (Nat.le_of_ble_eq_true rfl) (by rw [hr]; exact ⟨show dx + 1 ≤ 2048 from by omega, show 8 + (2 + 11) + 64 * dx ≤ 84000 from by omega⟩) (by rw [hr]; exact ⟨show cs + mc ≤ 600000 from by omega, show ss + ms ≤ 7302250 from by omega⟩) ?_
  intro rv h1 hq_
  obtain ⟨hv_, hk_⟩ := hq_
  subst hv_
  obtain ⟨l1, am2⟩ := mm h1 hk_
  show AW V (cs + mc) (ss + ms) h1 567 [(0, .ref b), (1, .ref B), (2, .ref (B + 51)), (3, .int (nI (5 * t)))] [.int v]
  refine a_aload_n hb dL_law_567 rfl 2 rfl ?_
  refine a_aload_n hb dL_law_568 rfl 0 rfl ?_
  refine a_iload_n hb dL_law_569 rfl 3 rfl ?_
  refine a_iconst (v := 1) hb dL_law_570 (by decide) ?_
  refine a_iadd hb dL_law_571 ?_
  refine b_lds (j := 5 * t + 1) hb hx dL_law_572 (IX.add (IX.n (by omega)) ⟨by decide, by decide⟩ (by omega)) (by omega) ?_
  refine a_callV hb dL_law_573 am2 (by rw [ow]; exact clv_RL_64) (l1.1 51 (by decide)) (by decide) rfl rfl rfl (Nat.le_of_ble_eq_true rfl) (by rw [hr]; exact ⟨show dm + 1 ≤ 2048 from by omega, show 8 + (2 + 11) + 64 * dm ≤ 84000 from by omega⟩) (by rw [hr]; exact ⟨show cs + mc + 0 ≤ 600000 from by omega, show ss + ms + 0 ≤ 7302250 from by omega⟩) ?_
  intro rv h2 hq_
  obtain ⟨hv_, hi_⟩ := hq_
  subst hv_
  show AW V (cs + mc) (ss + ms) h2 576 [(0, .ref b), (1, .ref B), (2, .ref (B + 51)), (3, .int (nI (5 * t)))] [.int v, .int v]
  refine a_icmp_eq hb 1131 dL_law_576 (by decide) (fun c => ?_) (fun c => absurd rfl c)
  exact AW.wide (by omega) (by omega) (K h2 hi_)
theorem lw_c11 {V : VV} {b B Ln t cs ss : Nat} {xs : Nat → Int32} {h : AH} (hb : V.2.1.2.1 = code) (ow : V.2.1.1.cls = RL) (hr : V.2.2.1 = room_1) (hx : gX V.1 = (b, Ln, xs)) (ht : 5 * t + 5 ≤ Ln) (hl : Ln ≤ 320) (hc : cs ≤ 1000 ∧ ss ≤ 100000) (H : INV h B) (K : ∀ h', INV h' B → AW V (cs + 6) (ss + 271) h' 1131 [(0, .ref b), (1, .ref B), (2, .ref (B + 51)), (3, .int (nI (5 * t)))] []) : AW V cs ss h 581 [(0, .ref b), (1, .ref B), (2, .ref (B + 51)), (3, .int (nI (5 * t)))] [] := by
  obtain ⟨v, K_, dx, mc, ms, dm, ⟨q1, q2, q3, q4⟩, mx, mm⟩ := s_costs V.1 h B H 
  refine a_aload_n hb dL_law_581 rfl 1 rfl ?_
  refine a_callV hb dL_law_582 mx (by rw [ow]; exact clv_RL_65) (H.1.1 0 (by decide)) (by decide) rfl rfl rfl (Nat.le_of_ble_eq_true rfl) (by rw [hr]; exact ⟨show dx + 1 ≤ 2048 from by omega, show 8 + (1 + 11) + 64 * dx ≤ 84000 from by omega⟩) (by rw [hr]; exact ⟨show cs + mc ≤ 600000 from by omega, show ss + ms ≤ 7302250 from by omega⟩) ?_
  intro rv h1 hq_
  obtain ⟨hv_, hk_⟩ := hq_
  subst hv_
  obtain ⟨l1, am2⟩ := mm h1 hk_
  show AW V (cs + mc) (ss + ms) h1 585 [(0, .ref b), (1, .ref B), (2, .ref (B + 51)), (3, .int (nI (5 * t)))] [.int v]
  refine a_aload_n hb dL_law_585 rfl 2 rfl ?_
  refine a_callV hb dL_law_586 am2 (by rw [ow]; exact clv_RL_68) (l1.1 51 (by decide)) (by decide) rfl rfl rfl (Nat.le_of_ble_eq_true rfl) (by rw [hr]; exact ⟨show dm + 1 ≤ 2048 from by omega, show 8 + (3 + 11) + 64 * dm ≤ 84000 from by omega⟩) (by rw [hr]; exact ⟨show cs + mc + 0 ≤ 600000 from by omega, show ss + ms + 0 ≤ 7302250 from by omega⟩) ?_
  intro rv h2 hq_
  obtain ⟨hv_, hi_⟩ := hq_
  subst hv_
  show AW V (cs + mc) (ss + ms) h2 589 [(0, .ref b), (1, .ref B), (2, .ref (B + 51)), (3, .int (nI (5 * t)))] [.int v, .int v]
  refine a_icmp_eq hb 1131 dL_law_589 (by decide) (fun c => ?_) (fun c => absurd rfl c)
  exact AW.wide (by omega) (by omega) (K h2 hi_)
theorem lw_c12 {V : VV} {b B Ln t cs ss : Nat} {xs : Nat → Int32} {h : AH} (hb : V.2.1.2.1 = code) (ow : V.2.1.1.cls = RL) (hr : V.2.2.1 = room_1) (hx : gX V.1 = (b, Ln, xs)) (ht : 5 * t + 5 ≤ Ln) (hl : Ln ≤ 320) (hc : cs ≤ 1000 ∧ ss ≤ 100000) (H : INV h B) (K : ∀ h', INV h' B → AW V (cs + 6) (ss + 271) h' 1131 [(0, .ref b), (1, .ref B), (2, .ref (B + 51)), (3, .int (nI (5 * t)))] []) : AW V cs ss h 594 [(0, .ref b), (1, .ref B), (2, .ref (B + 51)), (3, .int (nI (5 * t)))] [] := by
  obtain ⟨v, K_, dx, mc, ms, dm, ⟨q1, q2, q3, q4⟩, mx, mm⟩ := s_beat V.1 h B H (xs (5 * t + 1))
  refine a_aload_n hb dL_law_594 rfl 1 rfl ?_
  refine a_aload_n hb dL_law_595 rfl 0 rfl ?_
  refine a_iload_n hb dL_law_596 rfl 3 rfl ?_
  refine a_iconst (v := 1) hb dL_law_597 (by decide) ?_
  refine a_iadd hb dL_law_598 ?_
  refine b_lds (j := 5 * t + 1) hb hx dL_law_599 (IX.add (IX.n (by omega)) ⟨by decide, by decide⟩ (by omega)) (by omega) ?_
  refine a_callV hb dL_law_600 mx (by rw [ow]; exact clv_RL_69) (H.1.1 0 (by decide)) (by decide) rfl rfl rfl (Nat.le_of_ble_eq_true rfl) (by rw [hr]; exact ⟨show dx + 1 ≤ 2048 from by omega, show 8 + (4 + 11) + 64 * dx ≤ 84000 from by omega⟩) (by rw [hr]; exact ⟨show cs + mc ≤ 600000 from by omega, show ss + ms ≤ 7302250 from by omega⟩) ?_
  intro rv h1 hq_
  obtain ⟨hv_, hk_⟩ := hq_
  subst hv_
  obtain ⟨l1, am2⟩ := mm h1 hk_
  show AW V (cs + mc) (ss + ms) h1 603 [(0, .ref b), (1, .ref B), (2, .ref (B + 51)), (3, .int (nI (5 * t)))] [.long v]
  refine a_aload_n hb dL_law_603 rfl 2 rfl ?_
  refine a_aload_n hb dL_law_604 rfl 0 rfl ?_
  refine a_iload_n hb dL_law_605 rfl 3 rfl ?_
  refine a_iconst (v := 1) hb dL_law_606 (by decide) ?_
  refine a_iadd hb dL_law_607 ?_
  refine b_lds (j := 5 * t + 1) hb hx dL_law_608 (IX.add (IX.n (by omega)) ⟨by decide, by decide⟩ (by omega)) (by omega) ?_
  refine a_callV hb dL_law_609 am2 (by rw [ow]; exact clv_RL_73) (l1.1 51 (by decide)) (by decide) rfl rfl rfl (Nat.le_of_ble_eq_true rfl) (by rw [hr]; exact ⟨show dm + 1 ≤ 2048 from by omega, show 8 + (2 + 11) + 64 * dm ≤ 84000 from by omega⟩) (by rw [hr]; exact ⟨show cs + mc + 0 ≤ 600000 from by omega, show ss + ms + 0 ≤ 7302250 from by omega⟩) ?_
  intro rv h2 hq_
  obtain ⟨hv_, hi_⟩ := hq_
  subst hv_
  show AW V (cs + mc) (ss + ms) h2 612 [(0, .ref b), (1, .ref B), (2, .ref (B + 51)), (3, .int (nI (5 * t)))] [.long v, .long v]
  refine a_lcmp hb dL_law_612 ?_
  refine a_if_eq hb 1131 dL_law_613 (by decide) (fun c => ?_) (fun c => absurd (lc_eq.mpr rfl) c)
  exact AW.wide (by omega) (by omega) (K h2 hi_)
theorem lw_c13 {V : VV} {b B Ln t cs ss : Nat} {xs : Nat → Int32} {h : AH} (hb : V.2.1.2.1 = code) (ow : V.2.1.1.cls = RL) (hr : V.2.2.1 = room_1) (hx : gX V.1 = (b, Ln, xs)) (ht : 5 * t + 5 ≤ Ln) (hl : Ln ≤ 320) (hc : cs ≤ 1000 ∧ ss ≤ 100000) (H : INV h B) (K : ∀ h', INV h' B → AW V (cs + 6) (ss + 271) h' 1131 [(0, .ref b), (1, .ref B), (2, .ref (B + 51)), (3, .int (nI (5 * t)))] []) : AW V cs ss h 618 [(0, .ref b), (1, .ref B), (2, .ref (B + 51)), (3, .int (nI (5 * t)))] [] := by
  obtain ⟨v, K_, dx, mc, ms, dm, ⟨q1, q2, q3, q4⟩, mx, mm⟩ := s_first V.1 h B H (xs (5 * t + 1))
  refine a_aload_n hb dL_law_618 rfl 1 rfl ?_
  refine a_aload_n hb dL_law_619 rfl 0 rfl ?_
  refine a_iload_n hb dL_law_620 rfl 3 rfl ?_
  refine a_iconst (v := 1) hb dL_law_621 (by decide) ?_
  refine a_iadd hb dL_law_622 ?_
  refine b_lds (j := 5 * t + 1) hb hx dL_law_623 (IX.add (IX.n (by omega)) ⟨by decide, by decide⟩ (by omega)) (by omega) ?_
  refine a_callV hb dL_law_624 mx (by rw [ow]; exact clv_RL_74) (H.1.1 0 (by decide)) (by decide) rfl rfl rfl (Nat.le_of_ble_eq_true rfl) (by rw [hr]; exact ⟨show dx + 1 ≤ 2048 from by omega, show 8 + (2 + 11) + 64 * dx ≤ 84000 from by omega⟩) (by rw [hr]; exact ⟨show cs + mc ≤ 600000 from by omega, show ss + ms ≤ 7302250 from by omega⟩) ?_
  intro rv h1 hq_
  obtain ⟨hv_, hk_⟩ := hq_
  subst hv_
  obtain ⟨l1, am2⟩ := mm h1 hk_
  show AW V (cs + mc) (ss + ms) h1 627 [(0, .ref b), (1, .ref B), (2, .ref (B + 51)), (3, .int (nI (5 * t)))] [.int v]
  refine a_aload_n hb dL_law_627 rfl 2 rfl ?_
  refine a_aload_n hb dL_law_628 rfl 0 rfl ?_
  refine a_iload_n hb dL_law_629 rfl 3 rfl ?_
  refine a_iconst (v := 1) hb dL_law_630 (by decide) ?_
  refine a_iadd hb dL_law_631 ?_
  refine b_lds (j := 5 * t + 1) hb hx dL_law_632 (IX.add (IX.n (by omega)) ⟨by decide, by decide⟩ (by omega)) (by omega) ?_
  refine a_callV hb dL_law_633 am2 (by rw [ow]; exact clv_RL_77) (l1.1 51 (by decide)) (by decide) rfl rfl rfl (Nat.le_of_ble_eq_true rfl) (by rw [hr]; exact ⟨show dm + 1 ≤ 2048 from by omega, show 8 + (2 + 11) + 64 * dm ≤ 84000 from by omega⟩) (by rw [hr]; exact ⟨show cs + mc + 0 ≤ 600000 from by omega, show ss + ms + 0 ≤ 7302250 from by omega⟩) ?_
  intro rv h2 hq_
  obtain ⟨hv_, hi_⟩ := hq_
  subst hv_
  show AW V (cs + mc) (ss + ms) h2 636 [(0, .ref b), (1, .ref B), (2, .ref (B + 51)), (3, .int (nI (5 * t)))] [.int v, .int v]
  refine a_icmp_eq hb 1131 dL_law_636 (by decide) (fun c => ?_) (fun c => absurd rfl c)
  exact AW.wide (by omega) (by omega) (K h2 hi_)
theorem lw_c14 {V : VV} {b B Ln t cs ss : Nat} {xs : Nat → Int32} {h : AH} (hb : V.2.1.2.1 = code) (ow : V.2.1.1.cls = RL) (hr : V.2.2.1 = room_1) (hx : gX V.1 = (b, Ln, xs)) (ht : 5 * t + 5 ≤ Ln) (hl : Ln ≤ 320) (hc : cs ≤ 1000 ∧ ss ≤ 100000) (H : INV h B) (K : ∀ h', INV h' B → AW V (cs + 6) (ss + 271) h' 1131 [(0, .ref b), (1, .ref B), (2, .ref (B + 51)), (3, .int (nI (5 * t)))] []) : AW V cs ss h 641 [(0, .ref b), (1, .ref B), (2, .ref (B + 51)), (3, .int (nI (5 * t)))] [] := by
  obtain ⟨v, K_, dx, mc, ms, dm, ⟨q1, q2, q3, q4⟩, mx, mm⟩ := s_wave V.1 h B H (xs (5 * t + 1))
  refine a_aload_n hb dL_law_641 rfl 1 rfl ?_
  refine a_aload_n hb dL_law_642 rfl 0 rfl ?_
  refine a_iload_n hb dL_law_643 rfl 3 rfl ?_
  refine a_iconst (v := 1) hb dL_law_644 (by decide) ?_
  refine a_iadd hb dL_law_645 ?_
  refine b_lds (j := 5 * t + 1) hb hx dL_law_646 (IX.add (IX.n (by omega)) ⟨by decide, by decide⟩ (by omega)) (by omega) ?_
  refine a_callV hb dL_law_647 mx (by rw [ow]; exact clv_RL_78) (H.1.1 0 (by decide)) (by decide) rfl rfl rfl (Nat.le_of_ble_eq_true rfl) (by rw [hr]; exact ⟨show dx + 1 ≤ 2048 from by omega, show 8 + (6 + 11) + 64 * dx ≤ 84000 from by omega⟩) (by rw [hr]; exact ⟨show cs + mc ≤ 600000 from by omega, show ss + ms ≤ 7302250 from by omega⟩) ?_
  intro rv h1 hq_
  obtain ⟨hv_, hk_⟩ := hq_
  subst hv_
  obtain ⟨l1, am2⟩ := mm h1 hk_
  show AW V (cs + mc) (ss + ms) h1 650 [(0, .ref b), (1, .ref B), (2, .ref (B + 51)), (3, .int (nI (5 * t)))] [.long v]
  refine a_aload_n hb dL_law_650 rfl 2 rfl ?_
  refine a_aload_n hb dL_law_651 rfl 0 rfl ?_
  refine a_iload_n hb dL_law_652 rfl 3 rfl ?_
  refine a_iconst (v := 1) hb dL_law_653 (by decide) ?_
  refine a_iadd hb dL_law_654 ?_
  refine b_lds (j := 5 * t + 1) hb hx dL_law_655 (IX.add (IX.n (by omega)) ⟨by decide, by decide⟩ (by omega)) (by omega) ?_
  refine a_callV hb dL_law_656 am2 (by rw [ow]; exact clv_RL_81) (l1.1 51 (by decide)) (by decide) rfl rfl rfl (Nat.le_of_ble_eq_true rfl) (by rw [hr]; exact ⟨show dm + 1 ≤ 2048 from by omega, show 8 + (7 + 11) + 64 * dm ≤ 84000 from by omega⟩) (by rw [hr]; exact ⟨show cs + mc + 0 ≤ 600000 from by omega, show ss + ms + 0 ≤ 7302250 from by omega⟩) ?_
  intro rv h2 hq_
  obtain ⟨hv_, hi_⟩ := hq_
  subst hv_
  show AW V (cs + mc) (ss + ms) h2 659 [(0, .ref b), (1, .ref B), (2, .ref (B + 51)), (3, .int (nI (5 * t)))] [.long v, .long v]
  refine a_lcmp hb dL_law_659 ?_
  refine a_if_eq hb 1131 dL_law_660 (by decide) (fun c => ?_) (fun c => absurd (lc_eq.mpr rfl) c)
  exact AW.wide (by omega) (by omega) (K h2 hi_)
