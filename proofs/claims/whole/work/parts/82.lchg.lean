/-! THE LAW: its changing calls -/
section LM_
variable {G : lq_G} {z : Nat} {S : lq_S} {M : lq_M} {N : lq_N}
theorem c_book {a b m o L i u kc ks : Nat} {xs : Nat → Int32} (hX : va_X a L xs (lq_u G) (lq_u G).heap) (hL : L ≤ 3072) (hNC : q_NC G) (hb : b + 1607 ≤ m) (hm : m + 273 ≤ o) (hi : i + 6 ≤ L) {H : Nat → Nat → Nat} {tk : Nat → Nat → Nat × Nat} {n : Nat → Nat} (hsh : q_sh9 S b m o) (hI : q_I b m u H tk n M) {Q : lq_P} (kk : ∀ (z1 : Nat) (S1 : lq_S) (M1 : lq_M) (N1 : lq_N) (u1 : Nat) (H1 : Nat → Nat → Nat) (tk1 : Nat → Nat → Nat × Nat) (n1 : Nat → Nat), q_sh9 S1 b m o → q_I b m u1 H1 tk1 n1 M1 → LW G YL_law 30 kc ks Q lq_no z1 S1 M1 N1 1729 [some (.ref a), some (.ref b), some (.ref m), some (.ref o), some (.int (nI i)), none, none] []) : LW G YL_law 30 (kc + 3) (ks + 18) Q lq_no z S M N 1213 [some (.ref a), some (.ref b), some (.ref m), some (.ref o), some (.int (nI i)), none, none] [] := by
  obtain ⟨⟨F, fp, fb, h8⟩, ⟨x0, nb0, h5⟩, ⟨fD, σD, hD⟩, ⟨fh, fo, h9⟩, hO⟩ := id hsh
  obtain ⟨tkR, nR, hFR, hnR, hCR, hpick⟩ := (hI.2.2.2.1 0 (Nat.zero_le u)).pick
  have hcx := hI.2.2.2.1 0 (Nat.zero_le u)
  refine qw_aload_n 1 dL_law_1213 rfl rfl ?_
  refine qw_aload_n 0 dL_law_1214 rfl rfl ?_
  refine qw_iload dL_law_1215 rfl ?_
  refine qw_iconst (nI 1) dL_law_1217 (by decide) ?_
  refine qw_addN dL_law_1218 ?_
  refine qw_xald hX dL_law_1219 (by omega) (by omega) ?_
  refine qw_aload_n 0 dL_law_1220 rfl rfl ?_
  refine qw_iload dL_law_1221 rfl ?_
  refine qw_iconst (nI 2) dL_law_1223 (by decide) ?_
  refine qw_addN dL_law_1224 ?_
  refine qw_xald hX dL_law_1225 (by omega) (by omega) ?_
  refine qw_aload_n 0 dL_law_1226 rfl rfl ?_
  refine qw_iload dL_law_1227 rfl ?_
  refine qw_iconst (nI 3) dL_law_1229 (by decide) ?_
  refine qw_addN dL_law_1230 ?_
  refine qw_xald hX dL_law_1231 (by omega) (by omega) ?_
  refine qw_aload_n 3 dL_law_1232 rfl rfl ?_
  refine lq_callSH (As := [.ref b, .int (xs (i + 1)), .int (xs (i + 2)), .int (xs (i + 3)), .ref o]) (k_L_book hNC h8.1 (k_X8_book h8 hI.1) (fun r z1 S1 M1 N1 hq => by obtain ⟨-, rfl, -, x9, rfl, -⟩ := hq; exact ⟨⟨x9, rfl⟩, hO⟩) (fun E hE => hE.imp And.left And.left)) sL_158 dL_law_1233 rfl rfl (Nat.le_of_ble_eq_true rfl) (by decide) (by decide) (by omega) (by omega) rfl (fun _ _ _ _ _ h => h.elim) (fun r z1 S1 M1 N1 hw => ?_)
  have hW : g_wf (H 0) := by rw [hI.2.2.1]; exact hI.hW
  rcases hw with ⟨x1, N0, ⟨rfl, rfl, rfl, x9, e9, hV⟩, rfl, rfl⟩ | ⟨E, hE, rfl, rfl, rfl, rfl⟩
  · cases e9
    obtain ⟨k1, k2, k3, b1, b2, b3, b4, f1, f2, f3, hx1, hh1, hf1⟩ := hV
    have em : M1 m = M m := hf1 m (by omega)
    have ed : M1 (m + 2) = M (m + 2) := hf1 (m + 2) (by omega)
    have e2 : H 0 = M1 (m + 2) := by rw [ed]; exact hI.2.2.1
    have hWr : g_wf (M1 (m + 2)) := by rw [← e2]; exact hW
    have hr1 : q_hr M1 m u H := by obtain ⟨k1, k2, k3⟩ := hI.2.1; exact ⟨by rw [em]; exact k1, k2, fun j j1 j2 k hk => by rw [hf1 _ (by omega)]; exact k3 j j1 j2 k hk⟩
    refine qw_istore dL_law_1236 rfl (by decide) ?_
    refine qw_aload_n 2 dL_law_1238 rfl rfl ?_
    refine qw_aload_n 0 dL_law_1239 rfl rfl ?_
    refine qw_iload dL_law_1240 rfl ?_
    refine qw_iconst (nI 1) dL_law_1242 (by decide) ?_
    refine qw_addN dL_law_1243 ?_
    refine qw_xald hX dL_law_1244 (by omega) (by omega) ?_
    refine qw_aload_n 0 dL_law_1245 rfl rfl ?_
    refine qw_iload dL_law_1246 rfl ?_
    refine qw_iconst (nI 2) dL_law_1248 (by decide) ?_
    refine qw_addN dL_law_1249 ?_
    refine qw_xald hX dL_law_1250 (by omega) (by omega) ?_
    refine qw_aload_n 0 dL_law_1251 rfl rfl ?_
    refine qw_iload dL_law_1252 rfl ?_
    refine qw_iconst (nI 3) dL_law_1254 (by decide) ?_
    refine qw_addN dL_law_1255 ?_
    refine qw_xald hX dL_law_1256 (by omega) (by omega) ?_
    refine qw_cvn [_, _, _] (k_X9_book h9 hWr hFR hnR (by rw [← e2]; exact hCR) (u := u) (H := H) hr1 e2) mL_160 dL_law_1257 h9.1 rfl rfl rfl (Nat.le_of_ble_eq_true rfl) (by omega) (by decide) rfl (fun x2 M2 N2 h2 => ?_)
    obtain ⟨h2, hnf⟩ := h2
    rw [← e2] at h2
    obtain ⟨j1, j2, j3, d1, d2, d3, d4, g1, g2, g3, hx2, hmu⟩ := h2.resolve_right (fun ⟨e, hE2, _⟩ => an_book (x1 := x1) hW ⟨k1, k2, k3, b1, b2, b3, b4, f1, f2, f3, rfl⟩ hE2)
    have h20 := hW.nb
    have h8a := hW.ns
    obtain ⟨rfl, rfl⟩ : tkR = tk 0 ∧ nR = n 0 := hpick.resolve_right (fun q => by omega)
    obtain rfl := nI_j f1 g1 (by omega) (by omega)
    obtain rfl := nI_j f2 g2 (by omega) (by omega)
    obtain rfl := nI_j f3 g3 (by omega) (by omega)
    obtain rfl : x2 = x1 := by rw [hx1, hx2]
    refine qw_istore dL_law_1260 rfl (by decide) ?_
    refine qw_aload_n 2 dL_law_1262 rfl rfl ?_
    refine qw_cvp [] (k_X9_thrown h9) mL_97 dL_law_1263 h9.1 rfl rfl rfl (Nat.le_of_ble_eq_true rfl) (by omega) (by decide) rfl ?_
    rw [hmu.2.2.1]
    refine qw_iload dL_law_1266 rfl ?_
    refine qw_icmp_eq 1273 dL_law_1268 (by decide) (fun c1268 => ?_) (fun c1268 => absurd rfl c1268)
    refine qw_iload dL_law_1273 rfl ?_
    refine qw_if_ne 1290 dL_law_1275 (by decide) (fun c1275 => absurd rfl c1275) (fun c1275 => ?_)
    refine qw_aload_n 3 dL_law_1278 rfl rfl ?_
    refine qw_iconst (nI 0) dL_law_1279 (by decide) ?_
    refine qw_lald dL_law_1280 hO (by omega) (by omega) ?_
    rw [hnf _ (by omega), lq_up_s]
    refine qw_iload dL_law_1281 rfl ?_
    refine qw_i2l _ dL_law_1283 rfl ?_
    refine qw_lcmp dL_law_1284 ?_
    rw [q_lc]
    refine qw_if_eq 1290 dL_law_1285 (by decide) (fun c1285 => ?_) (fun c1285 => absurd rfl c1285)
    refine qw_goto 1729 dL_law_1290 (by decide) ?_
    exact qw_weak _ (by simp [lq_le]) (LW.room (by omega) (by omega) (kk _ _ _ _ _ _ _ _ hsh (hI.mut hb hh1 hf1 hmu (hcx.far (g_bk_far hW b1 b4) (fun q1 q2 => by omega)))))
  · have e2 : H 0 = M1 (m + 2) := hI.2.2.1
    have hWr : g_wf (M1 (m + 2)) := hI.hW
    refine qw_istore dL_law_1236 rfl (by decide) ?_
    refine qw_aload_n 2 dL_law_1238 rfl rfl ?_
    refine qw_aload_n 0 dL_law_1239 rfl rfl ?_
    refine qw_iload dL_law_1240 rfl ?_
    refine qw_iconst (nI 1) dL_law_1242 (by decide) ?_
    refine qw_addN dL_law_1243 ?_
    refine qw_xald hX dL_law_1244 (by omega) (by omega) ?_
    refine qw_aload_n 0 dL_law_1245 rfl rfl ?_
    refine qw_iload dL_law_1246 rfl ?_
    refine qw_iconst (nI 2) dL_law_1248 (by decide) ?_
    refine qw_addN dL_law_1249 ?_
    refine qw_xald hX dL_law_1250 (by omega) (by omega) ?_
    refine qw_aload_n 0 dL_law_1251 rfl rfl ?_
    refine qw_iload dL_law_1252 rfl ?_
    refine qw_iconst (nI 3) dL_law_1254 (by decide) ?_
    refine qw_addN dL_law_1255 ?_
    refine qw_xald hX dL_law_1256 (by omega) (by omega) ?_
    refine qw_cvn [_, _, _] (k_X9_book h9 hWr hFR hnR (by rw [← e2]; exact hCR) (u := u) (H := H) hI.2.1 e2) mL_160 dL_law_1257 h9.1 rfl rfl rfl (Nat.le_of_ble_eq_true rfl) (by omega) (by decide) rfl (fun x2 M2 N2 h2 => ?_)
    obtain ⟨h2, hnf⟩ := h2
    rw [← e2] at h2
    obtain ⟨e, hE2, rfl⟩ := h2.resolve_left (fun ⟨j1, j2, j3, d1, d2, d3, d4, g1, g2, g3, _⟩ => ap_book (x1 := x2) hW ⟨j1, j2, j3, d1, d2, d3, d4, g1, g2, g3, rfl⟩ hE)
    obtain ⟨hee, hne⟩ := ae_book hW hE hE2
    refine qw_istore dL_law_1260 rfl (by decide) ?_
    refine qw_aload_n 2 dL_law_1262 rfl rfl ?_
    refine qw_cvp [] (k_X9_thrown h9) mL_97 dL_law_1263 h9.1 rfl rfl rfl (Nat.le_of_ble_eq_true rfl) (by omega) (by decide) rfl ?_
    rw [lq_up_s]
    refine qw_iload dL_law_1266 rfl ?_
    rw [← hee]
    refine qw_icmp_eq 1273 dL_law_1268 (by decide) (fun c1268 => ?_) (fun c1268 => absurd rfl c1268)
    refine qw_iload dL_law_1273 rfl ?_
    refine qw_if_ne 1290 dL_law_1275 (by decide) (fun c1275 => ?_) (fun c1275 => absurd c1275 hne)
    refine qw_goto 1729 dL_law_1290 (by decide) ?_
    exact qw_weak _ (by simp [lq_le]) (LW.room (by omega) (by omega) (kk _ _ _ _ _ _ _ _ hsh (hI.up hb _)))
theorem c_bookAnyhow {a b m o L i u kc ks : Nat} {xs : Nat → Int32} (hX : va_X a L xs (lq_u G) (lq_u G).heap) (hL : L ≤ 3072) (hNC : q_NC G) (hb : b + 1607 ≤ m) (hm : m + 273 ≤ o) (hi : i + 6 ≤ L) {H : Nat → Nat → Nat} {tk : Nat → Nat → Nat × Nat} {n : Nat → Nat} (hsh : q_sh9 S b m o) (hI : q_I b m u H tk n M) {Q : lq_P} (kk : ∀ (z1 : Nat) (S1 : lq_S) (M1 : lq_M) (N1 : lq_N) (u1 : Nat) (H1 : Nat → Nat → Nat) (tk1 : Nat → Nat → Nat × Nat) (n1 : Nat → Nat), q_sh9 S1 b m o → q_I b m u1 H1 tk1 n1 M1 → LW G YL_law 30 kc ks Q lq_no z1 S1 M1 N1 1729 [some (.ref a), some (.ref b), some (.ref m), some (.ref o), some (.int (nI i)), none, none] []) : LW G YL_law 30 (kc + 3) (ks + 18) Q lq_no z S M N 1293 [some (.ref a), some (.ref b), some (.ref m), some (.ref o), some (.int (nI i)), none, none] [] := by
  obtain ⟨⟨F, fp, fb, h8⟩, ⟨x0, nb0, h5⟩, ⟨fD, σD, hD⟩, ⟨fh, fo, h9⟩, hO⟩ := id hsh
  obtain ⟨tkR, nR, hFR, hnR, hCR, hpick⟩ := (hI.2.2.2.1 0 (Nat.zero_le u)).pick
  have hcx := hI.2.2.2.1 0 (Nat.zero_le u)
  refine qw_aload_n 1 dL_law_1293 rfl rfl ?_
  refine qw_aload_n 0 dL_law_1294 rfl rfl ?_
  refine qw_iload dL_law_1295 rfl ?_
  refine qw_iconst (nI 1) dL_law_1297 (by decide) ?_
  refine qw_addN dL_law_1298 ?_
  refine qw_xald hX dL_law_1299 (by omega) (by omega) ?_
  refine qw_aload_n 0 dL_law_1300 rfl rfl ?_
  refine qw_iload dL_law_1301 rfl ?_
  refine qw_iconst (nI 2) dL_law_1303 (by decide) ?_
  refine qw_addN dL_law_1304 ?_
  refine qw_xald hX dL_law_1305 (by omega) (by omega) ?_
  refine qw_aload_n 0 dL_law_1306 rfl rfl ?_
  refine qw_iload dL_law_1307 rfl ?_
  refine qw_iconst (nI 3) dL_law_1309 (by decide) ?_
  refine qw_addN dL_law_1310 ?_
  refine qw_xald hX dL_law_1311 (by omega) (by omega) ?_
  refine qw_aload_n 3 dL_law_1312 rfl rfl ?_
  refine lq_callSH (As := [.ref b, .int (xs (i + 1)), .int (xs (i + 2)), .int (xs (i + 3)), .ref o]) (k_L_bookAnyhow hNC h8.1 (k_X8_bookAnyhow h8 hI.1) (fun r z1 S1 M1 N1 hq => by obtain ⟨-, rfl, -, x9, rfl, -⟩ := hq; exact ⟨⟨x9, rfl⟩, hO⟩) (fun E hE => hE.imp And.left And.left)) sL_161 dL_law_1313 rfl rfl (Nat.le_of_ble_eq_true rfl) (by decide) (by decide) (by omega) (by omega) rfl (fun _ _ _ _ _ h => h.elim) (fun r z1 S1 M1 N1 hw => ?_)
  have hW : g_wf (H 0) := by rw [hI.2.2.1]; exact hI.hW
  rcases hw with ⟨x1, N0, ⟨rfl, rfl, rfl, x9, e9, hV⟩, rfl, rfl⟩ | ⟨E, hE, rfl, rfl, rfl, rfl⟩
  · cases e9
    obtain ⟨k1, k2, k3, b1, b2, b3, b4, f1, f2, f3, hx1, hh1, hf1⟩ := hV
    have em : M1 m = M m := hf1 m (by omega)
    have ed : M1 (m + 2) = M (m + 2) := hf1 (m + 2) (by omega)
    have e2 : H 0 = M1 (m + 2) := by rw [ed]; exact hI.2.2.1
    have hWr : g_wf (M1 (m + 2)) := by rw [← e2]; exact hW
    have hr1 : q_hr M1 m u H := by obtain ⟨k1, k2, k3⟩ := hI.2.1; exact ⟨by rw [em]; exact k1, k2, fun j j1 j2 k hk => by rw [hf1 _ (by omega)]; exact k3 j j1 j2 k hk⟩
    refine qw_istore dL_law_1316 rfl (by decide) ?_
    refine qw_aload_n 2 dL_law_1318 rfl rfl ?_
    refine qw_aload_n 0 dL_law_1319 rfl rfl ?_
    refine qw_iload dL_law_1320 rfl ?_
    refine qw_iconst (nI 1) dL_law_1322 (by decide) ?_
    refine qw_addN dL_law_1323 ?_
    refine qw_xald hX dL_law_1324 (by omega) (by omega) ?_
    refine qw_aload_n 0 dL_law_1325 rfl rfl ?_
    refine qw_iload dL_law_1326 rfl ?_
    refine qw_iconst (nI 2) dL_law_1328 (by decide) ?_
    refine qw_addN dL_law_1329 ?_
    refine qw_xald hX dL_law_1330 (by omega) (by omega) ?_
    refine qw_aload_n 0 dL_law_1331 rfl rfl ?_
    refine qw_iload dL_law_1332 rfl ?_
    refine qw_iconst (nI 3) dL_law_1334 (by decide) ?_
    refine qw_addN dL_law_1335 ?_
    refine qw_xald hX dL_law_1336 (by omega) (by omega) ?_
    refine qw_cvn [_, _, _] (k_X9_bookAnyhow h9 hWr hFR hnR (by rw [← e2]; exact hCR) (u := u) (H := H) hr1 e2) mL_163 dL_law_1337 h9.1 rfl rfl rfl (Nat.le_of_ble_eq_true rfl) (by omega) (by decide) rfl (fun x2 M2 N2 h2 => ?_)
    obtain ⟨h2, hnf⟩ := h2
    rw [← e2] at h2
    obtain ⟨j1, j2, j3, d1, d2, d3, d4, g1, g2, g3, hx2, hmu⟩ := h2.resolve_right (fun ⟨e, hE2, _⟩ => an_book (x1 := x1) hW ⟨k1, k2, k3, b1, b2, b3, b4, f1, f2, f3, rfl⟩ hE2)
    have h20 := hW.nb
    have h8a := hW.ns
    obtain ⟨rfl, rfl⟩ : tkR = tk 0 ∧ nR = n 0 := hpick.resolve_right (fun q => by omega)
    obtain rfl := nI_j f1 g1 (by omega) (by omega)
    obtain rfl := nI_j f2 g2 (by omega) (by omega)
    obtain rfl := nI_j f3 g3 (by omega) (by omega)
    obtain rfl : x2 = x1 := by rw [hx1, hx2]
    refine qw_istore dL_law_1340 rfl (by decide) ?_
    refine qw_aload_n 2 dL_law_1342 rfl rfl ?_
    refine qw_cvp [] (k_X9_thrown h9) mL_97 dL_law_1343 h9.1 rfl rfl rfl (Nat.le_of_ble_eq_true rfl) (by omega) (by decide) rfl ?_
    rw [hmu.2.2.1]
    refine qw_iload dL_law_1346 rfl ?_
    refine qw_icmp_eq 1353 dL_law_1348 (by decide) (fun c1348 => ?_) (fun c1348 => absurd rfl c1348)
    refine qw_iload dL_law_1353 rfl ?_
    refine qw_if_ne 1370 dL_law_1355 (by decide) (fun c1355 => absurd rfl c1355) (fun c1355 => ?_)
    refine qw_aload_n 3 dL_law_1358 rfl rfl ?_
    refine qw_iconst (nI 0) dL_law_1359 (by decide) ?_
    refine qw_lald dL_law_1360 hO (by omega) (by omega) ?_
    rw [hnf _ (by omega), lq_up_s]
    refine qw_iload dL_law_1361 rfl ?_
    refine qw_i2l _ dL_law_1363 rfl ?_
    refine qw_lcmp dL_law_1364 ?_
    rw [q_lc]
    refine qw_if_eq 1370 dL_law_1365 (by decide) (fun c1365 => ?_) (fun c1365 => absurd rfl c1365)
    refine qw_goto 1729 dL_law_1370 (by decide) ?_
    exact qw_weak _ (by simp [lq_le]) (LW.room (by omega) (by omega) (kk _ _ _ _ _ _ _ _ hsh (hI.mut hb hh1 hf1 hmu (hcx.far (g_ba_far hW b1 b4) (fun q1 q2 => by omega)))))
  · have e2 : H 0 = M1 (m + 2) := hI.2.2.1
    have hWr : g_wf (M1 (m + 2)) := hI.hW
    refine qw_istore dL_law_1316 rfl (by decide) ?_
    refine qw_aload_n 2 dL_law_1318 rfl rfl ?_
    refine qw_aload_n 0 dL_law_1319 rfl rfl ?_
    refine qw_iload dL_law_1320 rfl ?_
    refine qw_iconst (nI 1) dL_law_1322 (by decide) ?_
    refine qw_addN dL_law_1323 ?_
    refine qw_xald hX dL_law_1324 (by omega) (by omega) ?_
    refine qw_aload_n 0 dL_law_1325 rfl rfl ?_
    refine qw_iload dL_law_1326 rfl ?_
    refine qw_iconst (nI 2) dL_law_1328 (by decide) ?_
    refine qw_addN dL_law_1329 ?_
    refine qw_xald hX dL_law_1330 (by omega) (by omega) ?_
    refine qw_aload_n 0 dL_law_1331 rfl rfl ?_
    refine qw_iload dL_law_1332 rfl ?_
    refine qw_iconst (nI 3) dL_law_1334 (by decide) ?_
    refine qw_addN dL_law_1335 ?_
    refine qw_xald hX dL_law_1336 (by omega) (by omega) ?_
    refine qw_cvn [_, _, _] (k_X9_bookAnyhow h9 hWr hFR hnR (by rw [← e2]; exact hCR) (u := u) (H := H) hI.2.1 e2) mL_163 dL_law_1337 h9.1 rfl rfl rfl (Nat.le_of_ble_eq_true rfl) (by omega) (by decide) rfl (fun x2 M2 N2 h2 => ?_)
    obtain ⟨h2, hnf⟩ := h2
    rw [← e2] at h2
    obtain ⟨e, hE2, rfl⟩ := h2.resolve_left (fun ⟨j1, j2, j3, d1, d2, d3, d4, g1, g2, g3, _⟩ => ap_book (x1 := x2) hW ⟨j1, j2, j3, d1, d2, d3, d4, g1, g2, g3, rfl⟩ hE)
    obtain ⟨hee, hne⟩ := ae_book hW hE hE2
    refine qw_istore dL_law_1340 rfl (by decide) ?_
    refine qw_aload_n 2 dL_law_1342 rfl rfl ?_
    refine qw_cvp [] (k_X9_thrown h9) mL_97 dL_law_1343 h9.1 rfl rfl rfl (Nat.le_of_ble_eq_true rfl) (by omega) (by decide) rfl ?_
    rw [lq_up_s]
    refine qw_iload dL_law_1346 rfl ?_
    rw [← hee]
    refine qw_icmp_eq 1353 dL_law_1348 (by decide) (fun c1348 => ?_) (fun c1348 => absurd rfl c1348)
    refine qw_iload dL_law_1353 rfl ?_
    refine qw_if_ne 1370 dL_law_1355 (by decide) (fun c1355 => ?_) (fun c1355 => absurd c1355 hne)
    refine qw_goto 1729 dL_law_1370 (by decide) ?_
    exact qw_weak _ (by simp [lq_le]) (LW.room (by omega) (by omega) (kk _ _ _ _ _ _ _ _ hsh (hI.up hb _)))
theorem c_campaign {a b m o L i u kc ks : Nat} {xs : Nat → Int32} (hX : va_X a L xs (lq_u G) (lq_u G).heap) (hL : L ≤ 3072) (hNC : q_NC G) (hb : b + 1607 ≤ m) (hm : m + 273 ≤ o) (hi : i + 6 ≤ L) {H : Nat → Nat → Nat} {tk : Nat → Nat → Nat × Nat} {n : Nat → Nat} (hsh : q_sh9 S b m o) (hI : q_I b m u H tk n M) {Q : lq_P} (kk : ∀ (z1 : Nat) (S1 : lq_S) (M1 : lq_M) (N1 : lq_N) (u1 : Nat) (H1 : Nat → Nat → Nat) (tk1 : Nat → Nat → Nat × Nat) (n1 : Nat → Nat), q_sh9 S1 b m o → q_I b m u1 H1 tk1 n1 M1 → LW G YL_law 30 kc ks Q lq_no z1 S1 M1 N1 1729 [some (.ref a), some (.ref b), some (.ref m), some (.ref o), some (.int (nI i)), none, none] []) : LW G YL_law 30 (kc + 3) (ks + 18) Q lq_no z S M N 1554 [some (.ref a), some (.ref b), some (.ref m), some (.ref o), some (.int (nI i)), none, none] [] := by
  obtain ⟨⟨F, fp, fb, h8⟩, ⟨x0, nb0, h5⟩, ⟨fD, σD, hD⟩, ⟨fh, fo, h9⟩, hO⟩ := id hsh
  obtain ⟨tkR, nR, hFR, hnR, hCR, hpick⟩ := (hI.2.2.2.1 0 (Nat.zero_le u)).pick
  have hcx := hI.2.2.2.1 0 (Nat.zero_le u)
  refine qw_aload_n 1 dL_law_1554 rfl rfl ?_
  refine qw_aload_n 0 dL_law_1555 rfl rfl ?_
  refine qw_iload dL_law_1556 rfl ?_
  refine qw_iconst (nI 1) dL_law_1558 (by decide) ?_
  refine qw_addN dL_law_1559 ?_
  refine qw_xald hX dL_law_1560 (by omega) (by omega) ?_
  refine qw_aload_n 0 dL_law_1561 rfl rfl ?_
  refine qw_iload dL_law_1562 rfl ?_
  refine qw_iconst (nI 2) dL_law_1564 (by decide) ?_
  refine qw_addN dL_law_1565 ?_
  refine qw_xald hX dL_law_1566 (by omega) (by omega) ?_
  refine qw_aload_n 0 dL_law_1567 rfl rfl ?_
  refine qw_iload dL_law_1568 rfl ?_
  refine qw_iconst (nI 3) dL_law_1570 (by decide) ?_
  refine qw_addN dL_law_1571 ?_
  refine qw_xald hX dL_law_1572 (by omega) (by omega) ?_
  refine qw_aload_n 3 dL_law_1573 rfl rfl ?_
  refine lq_callSH (As := [.ref b, .int (xs (i + 1)), .int (xs (i + 2)), .int (xs (i + 3)), .ref o]) (k_L_campaign hNC h8.1 (k_X8_campaign h8 hI.1) (fun r z1 S1 M1 N1 hq => by obtain ⟨-, rfl, -, x9, rfl, -⟩ := hq; exact ⟨⟨x9, rfl⟩, hO⟩) (fun E hE => hE.imp And.left And.left)) sL_178 dL_law_1574 rfl rfl (Nat.le_of_ble_eq_true rfl) (by decide) (by decide) (by omega) (by omega) rfl (fun _ _ _ _ _ h => h.elim) (fun r z1 S1 M1 N1 hw => ?_)
  have hW : g_wf (H 0) := by rw [hI.2.2.1]; exact hI.hW
  rcases hw with ⟨x1, N0, ⟨rfl, rfl, rfl, x9, e9, hV⟩, rfl, rfl⟩ | ⟨E, hE, rfl, rfl, rfl, rfl⟩
  · cases e9
    obtain ⟨k1, k2, k3, b1, b2, b3, b4, b5, f1, f2, f3, hx1, hh1, hf1⟩ := hV
    have em : M1 m = M m := hf1 m (by omega)
    have ed : M1 (m + 2) = M (m + 2) := hf1 (m + 2) (by omega)
    have e2 : H 0 = M1 (m + 2) := by rw [ed]; exact hI.2.2.1
    have hWr : g_wf (M1 (m + 2)) := by rw [← e2]; exact hW
    have hr1 : q_hr M1 m u H := by obtain ⟨k1, k2, k3⟩ := hI.2.1; exact ⟨by rw [em]; exact k1, k2, fun j j1 j2 k hk => by rw [hf1 _ (by omega)]; exact k3 j j1 j2 k hk⟩
    refine qw_istore dL_law_1577 rfl (by decide) ?_
    refine qw_aload_n 2 dL_law_1579 rfl rfl ?_
    refine qw_aload_n 0 dL_law_1580 rfl rfl ?_
    refine qw_iload dL_law_1581 rfl ?_
    refine qw_iconst (nI 1) dL_law_1583 (by decide) ?_
    refine qw_addN dL_law_1584 ?_
    refine qw_xald hX dL_law_1585 (by omega) (by omega) ?_
    refine qw_aload_n 0 dL_law_1586 rfl rfl ?_
    refine qw_iload dL_law_1587 rfl ?_
    refine qw_iconst (nI 2) dL_law_1589 (by decide) ?_
    refine qw_addN dL_law_1590 ?_
    refine qw_xald hX dL_law_1591 (by omega) (by omega) ?_
    refine qw_aload_n 0 dL_law_1592 rfl rfl ?_
    refine qw_iload dL_law_1593 rfl ?_
    refine qw_iconst (nI 3) dL_law_1595 (by decide) ?_
    refine qw_addN dL_law_1596 ?_
    refine qw_xald hX dL_law_1597 (by omega) (by omega) ?_
    refine qw_cvn [_, _, _] (k_X9_campaign h9 hWr hFR hnR (by rw [← e2]; exact hCR) (u := u) (H := H) hr1 e2) mL_180 dL_law_1598 h9.1 rfl rfl rfl (Nat.le_of_ble_eq_true rfl) (by omega) (by decide) rfl (fun x2 M2 N2 h2 => ?_)
    obtain ⟨h2, hnf⟩ := h2
    rw [← e2] at h2
    obtain ⟨j1, j2, j3, d1, d2, d3, d4, d5, g1, g2, g3, hx2, hmu⟩ := h2.resolve_right (fun ⟨e, hE2, _⟩ => an_campaign (x1 := x1) hW ⟨k1, k2, k3, b1, b2, b3, b4, b5, f1, f2, f3, rfl⟩ hE2)
    have h20 := hW.nb
    have h8a := hW.ns
    obtain ⟨rfl, rfl⟩ : tkR = tk 0 ∧ nR = n 0 := hpick.resolve_right (fun q => by omega)
    obtain rfl := nI_j f1 g1 (by omega) (by omega)
    obtain rfl := nI_j f2 g2 (by omega) (by omega)
    obtain rfl := nI_j f3 g3 (by omega) (by omega)
    obtain rfl : x2 = x1 := by rw [hx1, hx2]
    refine qw_istore dL_law_1601 rfl (by decide) ?_
    refine qw_aload_n 2 dL_law_1603 rfl rfl ?_
    refine qw_cvp [] (k_X9_thrown h9) mL_97 dL_law_1604 h9.1 rfl rfl rfl (Nat.le_of_ble_eq_true rfl) (by omega) (by decide) rfl ?_
    rw [hmu.2.2.1]
    refine qw_iload dL_law_1607 rfl ?_
    refine qw_icmp_eq 1614 dL_law_1609 (by decide) (fun c1609 => ?_) (fun c1609 => absurd rfl c1609)
    refine qw_iload dL_law_1614 rfl ?_
    refine qw_if_ne 1631 dL_law_1616 (by decide) (fun c1616 => absurd rfl c1616) (fun c1616 => ?_)
    refine qw_aload_n 3 dL_law_1619 rfl rfl ?_
    refine qw_iconst (nI 0) dL_law_1620 (by decide) ?_
    refine qw_lald dL_law_1621 hO (by omega) (by omega) ?_
    rw [hnf _ (by omega), lq_up_s]
    refine qw_iload dL_law_1622 rfl ?_
    refine qw_i2l _ dL_law_1624 rfl ?_
    refine qw_lcmp dL_law_1625 ?_
    rw [q_lc]
    refine qw_if_eq 1631 dL_law_1626 (by decide) (fun c1626 => ?_) (fun c1626 => absurd rfl c1626)
    refine qw_goto 1729 dL_law_1631 (by decide) ?_
    exact qw_weak _ (by simp [lq_le]) (LW.room (by omega) (by omega) (kk _ _ _ _ _ _ _ _ hsh (hI.mut hb hh1 hf1 hmu (hcx.far (g_camp_far b3 k3 hW b1) (fun q1 q2 => by omega)))))
  · have e2 : H 0 = M1 (m + 2) := hI.2.2.1
    have hWr : g_wf (M1 (m + 2)) := hI.hW
    refine qw_istore dL_law_1577 rfl (by decide) ?_
    refine qw_aload_n 2 dL_law_1579 rfl rfl ?_
    refine qw_aload_n 0 dL_law_1580 rfl rfl ?_
    refine qw_iload dL_law_1581 rfl ?_
    refine qw_iconst (nI 1) dL_law_1583 (by decide) ?_
    refine qw_addN dL_law_1584 ?_
    refine qw_xald hX dL_law_1585 (by omega) (by omega) ?_
    refine qw_aload_n 0 dL_law_1586 rfl rfl ?_
    refine qw_iload dL_law_1587 rfl ?_
    refine qw_iconst (nI 2) dL_law_1589 (by decide) ?_
    refine qw_addN dL_law_1590 ?_
    refine qw_xald hX dL_law_1591 (by omega) (by omega) ?_
    refine qw_aload_n 0 dL_law_1592 rfl rfl ?_
    refine qw_iload dL_law_1593 rfl ?_
    refine qw_iconst (nI 3) dL_law_1595 (by decide) ?_
    refine qw_addN dL_law_1596 ?_
    refine qw_xald hX dL_law_1597 (by omega) (by omega) ?_
    refine qw_cvn [_, _, _] (k_X9_campaign h9 hWr hFR hnR (by rw [← e2]; exact hCR) (u := u) (H := H) hI.2.1 e2) mL_180 dL_law_1598 h9.1 rfl rfl rfl (Nat.le_of_ble_eq_true rfl) (by omega) (by decide) rfl (fun x2 M2 N2 h2 => ?_)
    obtain ⟨h2, hnf⟩ := h2
    rw [← e2] at h2
    obtain ⟨e, hE2, rfl⟩ := h2.resolve_left (fun ⟨j1, j2, j3, d1, d2, d3, d4, d5, g1, g2, g3, _⟩ => ap_campaign (x1 := x2) hW ⟨j1, j2, j3, d1, d2, d3, d4, d5, g1, g2, g3, rfl⟩ hE)
    obtain ⟨hee, hne⟩ := ae_campaign hW hE hE2
    refine qw_istore dL_law_1601 rfl (by decide) ?_
    refine qw_aload_n 2 dL_law_1603 rfl rfl ?_
    refine qw_cvp [] (k_X9_thrown h9) mL_97 dL_law_1604 h9.1 rfl rfl rfl (Nat.le_of_ble_eq_true rfl) (by omega) (by decide) rfl ?_
    rw [lq_up_s]
    refine qw_iload dL_law_1607 rfl ?_
    rw [← hee]
    refine qw_icmp_eq 1614 dL_law_1609 (by decide) (fun c1609 => ?_) (fun c1609 => absurd rfl c1609)
    refine qw_iload dL_law_1614 rfl ?_
    refine qw_if_ne 1631 dL_law_1616 (by decide) (fun c1616 => ?_) (fun c1616 => absurd c1616 hne)
    refine qw_goto 1729 dL_law_1631 (by decide) ?_
    exact qw_weak _ (by simp [lq_le]) (LW.room (by omega) (by omega) (kk _ _ _ _ _ _ _ _ hsh (hI.up hb _)))
theorem c_setCap {a b m o L i u kc ks : Nat} {xs : Nat → Int32} (hX : va_X a L xs (lq_u G) (lq_u G).heap) (hL : L ≤ 3072) (hNC : q_NC G) (hb : b + 1607 ≤ m) (hm : m + 273 ≤ o) (hi : i + 6 ≤ L) {H : Nat → Nat → Nat} {tk : Nat → Nat → Nat × Nat} {n : Nat → Nat} (hsh : q_sh9 S b m o) (hI : q_I b m u H tk n M) {Q : lq_P} (kk : ∀ (z1 : Nat) (S1 : lq_S) (M1 : lq_M) (N1 : lq_N) (u1 : Nat) (H1 : Nat → Nat → Nat) (tk1 : Nat → Nat → Nat × Nat) (n1 : Nat → Nat), q_sh9 S1 b m o → q_I b m u1 H1 tk1 n1 M1 → LW G YL_law 30 kc ks Q lq_no z1 S1 M1 N1 1729 [some (.ref a), some (.ref b), some (.ref m), some (.ref o), some (.int (nI i)), none, none] []) : LW G YL_law 30 (kc + 3) (ks + 18) Q lq_no z S M N 1634 [some (.ref a), some (.ref b), some (.ref m), some (.ref o), some (.int (nI i)), none, none] [] := by
  obtain ⟨⟨F, fp, fb, h8⟩, ⟨x0, nb0, h5⟩, ⟨fD, σD, hD⟩, ⟨fh, fo, h9⟩, hO⟩ := id hsh
  have hcx := hI.2.2.2.1 0 (Nat.zero_le u)
  refine qw_aload_n 1 dL_law_1634 rfl rfl ?_
  refine qw_aload_n 0 dL_law_1635 rfl rfl ?_
  refine qw_iload dL_law_1636 rfl ?_
  refine qw_iconst (nI 1) dL_law_1638 (by decide) ?_
  refine qw_addN dL_law_1639 ?_
  refine qw_xald hX dL_law_1640 (by omega) (by omega) ?_
  refine qw_aload_n 0 dL_law_1641 rfl rfl ?_
  refine qw_iload dL_law_1642 rfl ?_
  refine qw_iconst (nI 2) dL_law_1644 (by decide) ?_
  refine qw_addN dL_law_1645 ?_
  refine qw_xald hX dL_law_1646 (by omega) (by omega) ?_
  refine qw_aload_n 3 dL_law_1647 rfl rfl ?_
  refine lq_callSH (As := [.ref b, .int (xs (i + 1)), .int (xs (i + 2)), .ref o]) (k_L_setCap hNC h8.1 (k_X8_setCap h8 hI.1) (fun r z1 S1 M1 N1 hq => by obtain ⟨-, rfl, -, x9, rfl, -⟩ := hq; exact ⟨⟨x9, rfl⟩, hO⟩) (fun E hE => hE.imp And.left And.left)) sL_181 dL_law_1648 rfl rfl (Nat.le_of_ble_eq_true rfl) (by decide) (by decide) (by omega) (by omega) rfl (fun _ _ _ _ _ h => h.elim) (fun r z1 S1 M1 N1 hw => ?_)
  have hW : g_wf (H 0) := by rw [hI.2.2.1]; exact hI.hW
  rcases hw with ⟨x1, N0, ⟨rfl, rfl, rfl, x9, e9, hV⟩, rfl, rfl⟩ | ⟨E, hE, rfl, rfl, rfl, rfl⟩
  · cases e9
    obtain ⟨k1, k2, b1, b2, b3, f1, f2, hx1, hh1, hf1⟩ := hV
    have em : M1 m = M m := hf1 m (by omega)
    have ed : M1 (m + 2) = M (m + 2) := hf1 (m + 2) (by omega)
    have e2 : H 0 = M1 (m + 2) := by rw [ed]; exact hI.2.2.1
    have hWr : g_wf (M1 (m + 2)) := by rw [← e2]; exact hW
    have hr1 : q_hr M1 m u H := by obtain ⟨k1, k2, k3⟩ := hI.2.1; exact ⟨by rw [em]; exact k1, k2, fun j j1 j2 k hk => by rw [hf1 _ (by omega)]; exact k3 j j1 j2 k hk⟩
    refine qw_istore dL_law_1651 rfl (by decide) ?_
    refine qw_aload_n 2 dL_law_1653 rfl rfl ?_
    refine qw_aload_n 0 dL_law_1654 rfl rfl ?_
    refine qw_iload dL_law_1655 rfl ?_
    refine qw_iconst (nI 1) dL_law_1657 (by decide) ?_
    refine qw_addN dL_law_1658 ?_
    refine qw_xald hX dL_law_1659 (by omega) (by omega) ?_
    refine qw_aload_n 0 dL_law_1660 rfl rfl ?_
    refine qw_iload dL_law_1661 rfl ?_
    refine qw_iconst (nI 2) dL_law_1663 (by decide) ?_
    refine qw_addN dL_law_1664 ?_
    refine qw_xald hX dL_law_1665 (by omega) (by omega) ?_
    refine qw_cvn [_, _] (k_X9_setCap h9 hWr (u := u) (H := H) hr1 e2) mL_183 dL_law_1666 h9.1 rfl rfl rfl (Nat.le_of_ble_eq_true rfl) (by omega) (by decide) rfl (fun x2 M2 N2 h2 => ?_)
    obtain ⟨h2, hnf⟩ := h2
    rw [← e2] at h2
    obtain ⟨j1, j2, d1, d2, d3, g1, g2, hx2, hmu⟩ := h2.resolve_right (fun ⟨e, hE2, _⟩ => an_setCap (x1 := x1) hW ⟨k1, k2, b1, b2, b3, f1, f2, rfl⟩ hE2)
    have h20 := hW.nb
    have h8a := hW.ns
    obtain rfl := nI_j f1 g1 (by omega) (by omega)
    obtain rfl := nI_j f2 g2 (by omega) (by omega)
    obtain rfl : x2 = x1 := by rw [hx1, hx2]
    refine qw_istore dL_law_1669 rfl (by decide) ?_
    refine qw_aload_n 2 dL_law_1671 rfl rfl ?_
    refine qw_cvp [] (k_X9_thrown h9) mL_97 dL_law_1672 h9.1 rfl rfl rfl (Nat.le_of_ble_eq_true rfl) (by omega) (by decide) rfl ?_
    rw [hmu.2.2.1]
    refine qw_iload dL_law_1675 rfl ?_
    refine qw_icmp_eq 1682 dL_law_1677 (by decide) (fun c1677 => ?_) (fun c1677 => absurd rfl c1677)
    refine qw_iload dL_law_1682 rfl ?_
    refine qw_if_ne 1699 dL_law_1684 (by decide) (fun c1684 => absurd rfl c1684) (fun c1684 => ?_)
    refine qw_aload_n 3 dL_law_1687 rfl rfl ?_
    refine qw_iconst (nI 0) dL_law_1688 (by decide) ?_
    refine qw_lald dL_law_1689 hO (by omega) (by omega) ?_
    rw [hnf _ (by omega), lq_up_s]
    refine qw_iload dL_law_1690 rfl ?_
    refine qw_i2l _ dL_law_1692 rfl ?_
    refine qw_lcmp dL_law_1693 ?_
    rw [q_lc]
    refine qw_if_eq 1699 dL_law_1694 (by decide) (fun c1694 => ?_) (fun c1694 => absurd rfl c1694)
    refine qw_goto 1729 dL_law_1699 (by decide) ?_
    exact qw_weak _ (by simp [lq_le]) (LW.room (by omega) (by omega) (kk _ _ _ _ _ _ _ _ hsh (hI.mut hb hh1 hf1 hmu (hcx.far (fun x hx => g_one_o (by unfold q_far at hx; omega)) (fun q1 q2 => by omega)))))
  · have e2 : H 0 = M1 (m + 2) := hI.2.2.1
    have hWr : g_wf (M1 (m + 2)) := hI.hW
    refine qw_istore dL_law_1651 rfl (by decide) ?_
    refine qw_aload_n 2 dL_law_1653 rfl rfl ?_
    refine qw_aload_n 0 dL_law_1654 rfl rfl ?_
    refine qw_iload dL_law_1655 rfl ?_
    refine qw_iconst (nI 1) dL_law_1657 (by decide) ?_
    refine qw_addN dL_law_1658 ?_
    refine qw_xald hX dL_law_1659 (by omega) (by omega) ?_
    refine qw_aload_n 0 dL_law_1660 rfl rfl ?_
    refine qw_iload dL_law_1661 rfl ?_
    refine qw_iconst (nI 2) dL_law_1663 (by decide) ?_
    refine qw_addN dL_law_1664 ?_
    refine qw_xald hX dL_law_1665 (by omega) (by omega) ?_
    refine qw_cvn [_, _] (k_X9_setCap h9 hWr (u := u) (H := H) hI.2.1 e2) mL_183 dL_law_1666 h9.1 rfl rfl rfl (Nat.le_of_ble_eq_true rfl) (by omega) (by decide) rfl (fun x2 M2 N2 h2 => ?_)
    obtain ⟨h2, hnf⟩ := h2
    rw [← e2] at h2
    obtain ⟨e, hE2, rfl⟩ := h2.resolve_left (fun ⟨j1, j2, d1, d2, d3, g1, g2, _⟩ => ap_setCap (x1 := x2) hW ⟨j1, j2, d1, d2, d3, g1, g2, rfl⟩ hE)
    obtain ⟨hee, hne⟩ := ae_setCap hW hE hE2
    refine qw_istore dL_law_1669 rfl (by decide) ?_
    refine qw_aload_n 2 dL_law_1671 rfl rfl ?_
    refine qw_cvp [] (k_X9_thrown h9) mL_97 dL_law_1672 h9.1 rfl rfl rfl (Nat.le_of_ble_eq_true rfl) (by omega) (by decide) rfl ?_
    rw [lq_up_s]
    refine qw_iload dL_law_1675 rfl ?_
    rw [← hee]
    refine qw_icmp_eq 1682 dL_law_1677 (by decide) (fun c1677 => ?_) (fun c1677 => absurd rfl c1677)
    refine qw_iload dL_law_1682 rfl ?_
    refine qw_if_ne 1699 dL_law_1684 (by decide) (fun c1684 => ?_) (fun c1684 => absurd c1684 hne)
    refine qw_goto 1729 dL_law_1699 (by decide) ?_
    exact qw_weak _ (by simp [lq_le]) (LW.room (by omega) (by omega) (kk _ _ _ _ _ _ _ _ hsh (hI.up hb _)))
theorem c_cancel {a b m o L i u kc ks : Nat} {xs : Nat → Int32} (hX : va_X a L xs (lq_u G) (lq_u G).heap) (hL : L ≤ 3072) (hNC : q_NC G) (hb : b + 1607 ≤ m) (hm : m + 273 ≤ o) (hi : i + 6 ≤ L) {H : Nat → Nat → Nat} {tk : Nat → Nat → Nat × Nat} {n : Nat → Nat} (hsh : q_sh9 S b m o) (hI : q_I b m u H tk n M) {Q : lq_P} (kk : ∀ (z1 : Nat) (S1 : lq_S) (M1 : lq_M) (N1 : lq_N) (u1 : Nat) (H1 : Nat → Nat → Nat) (tk1 : Nat → Nat → Nat × Nat) (n1 : Nat → Nat), q_sh9 S1 b m o → q_I b m u1 H1 tk1 n1 M1 → LW G YL_law 30 kc ks Q lq_no z1 S1 M1 N1 1729 [some (.ref a), some (.ref b), some (.ref m), some (.ref o), some (.int (nI i)), none, none] []) : LW G YL_law 30 (kc + 3) (ks + 18) Q lq_no z S M N 1485 [some (.ref a), some (.ref b), some (.ref m), some (.ref o), some (.int (nI i)), none, none] [] := by
  obtain ⟨⟨F, fp, fb, h8⟩, ⟨x0, nb0, h5⟩, ⟨fD, σD, hD⟩, ⟨fh, fo, h9⟩, hO⟩ := id hsh
  have hcx := hI.2.2.2.1 0 (Nat.zero_le u)
  refine qw_aload_n 1 dL_law_1485 rfl rfl ?_
  refine qw_aload_n 0 dL_law_1486 rfl rfl ?_
  refine qw_iload dL_law_1487 rfl ?_
  refine qw_iconst (nI 1) dL_law_1489 (by decide) ?_
  refine qw_addN dL_law_1490 ?_
  refine qw_xald hX dL_law_1491 (by omega) (by omega) ?_
  refine qw_aload_n 3 dL_law_1492 rfl rfl ?_
  refine lq_callSH (As := [.ref b, .int (xs (i + 1)), .ref o]) (k_L_cancel hNC h8.1 (k_X8_cancel h8 hI.1) (fun r z1 S1 M1 N1 hq => by obtain ⟨-, rfl, -, x9, rfl, -⟩ := hq; exact ⟨⟨x9, rfl⟩, hO⟩) (fun E hE => hE.imp And.left And.left)) sL_171 dL_law_1493 rfl rfl (Nat.le_of_ble_eq_true rfl) (by decide) (by decide) (by omega) (by omega) rfl (fun _ _ _ _ _ h => h.elim) (fun r z1 S1 M1 N1 hw => ?_)
  have hW : g_wf (H 0) := by rw [hI.2.2.1]; exact hI.hW
  rcases hw with ⟨x1, N0, ⟨rfl, rfl, rfl, x9, e9, hV⟩, rfl, rfl⟩ | ⟨E, hE, rfl, rfl, rfl, rfl⟩
  · cases e9
    obtain ⟨k1, b1, f1, c0, hx1, hh1, hf1⟩ := hV
    have em : M1 m = M m := hf1 m (by omega)
    have ed : M1 (m + 2) = M (m + 2) := hf1 (m + 2) (by omega)
    have e2 : H 0 = M1 (m + 2) := by rw [ed]; exact hI.2.2.1
    have hWr : g_wf (M1 (m + 2)) := by rw [← e2]; exact hW
    have hr1 : q_hr M1 m u H := by obtain ⟨k1, k2, k3⟩ := hI.2.1; exact ⟨by rw [em]; exact k1, k2, fun j j1 j2 k hk => by rw [hf1 _ (by omega)]; exact k3 j j1 j2 k hk⟩
    refine qw_istore dL_law_1496 rfl (by decide) ?_
    refine qw_aload_n 2 dL_law_1498 rfl rfl ?_
    refine qw_aload_n 0 dL_law_1499 rfl rfl ?_
    refine qw_iload dL_law_1500 rfl ?_
    refine qw_iconst (nI 1) dL_law_1502 (by decide) ?_
    refine qw_addN dL_law_1503 ?_
    refine qw_xald hX dL_law_1504 (by omega) (by omega) ?_
    refine qw_cvn [_] (k_X9_cancel h9 hWr (u := u) (H := H) hr1 e2) mL_173 dL_law_1505 h9.1 rfl rfl rfl (Nat.le_of_ble_eq_true rfl) (by omega) (by decide) rfl (fun x2 M2 N2 h2 => ?_)
    obtain ⟨h2, hnf⟩ := h2
    rw [← e2] at h2
    obtain ⟨j1, d1, g1, d0, hx2, hmu⟩ := h2.resolve_right (fun ⟨e, hE2, _⟩ => an_cancel hW b1 f1 c0 hE2)
    have h20 := hW.nb
    have h8a := hW.ns
    obtain rfl := nI_j f1 g1 (by omega) (by omega)
    obtain rfl : x2 = x1 := by rw [hx1, hx2]
    refine qw_istore dL_law_1508 rfl (by decide) ?_
    refine qw_aload_n 2 dL_law_1510 rfl rfl ?_
    refine qw_cvp [] (k_X9_thrown h9) mL_97 dL_law_1511 h9.1 rfl rfl rfl (Nat.le_of_ble_eq_true rfl) (by omega) (by decide) rfl ?_
    rw [hmu.2.2.1]
    refine qw_iload dL_law_1514 rfl ?_
    refine qw_icmp_eq 1521 dL_law_1516 (by decide) (fun c1516 => ?_) (fun c1516 => absurd rfl c1516)
    refine qw_iload dL_law_1521 rfl ?_
    refine qw_if_ne 1538 dL_law_1523 (by decide) (fun c1523 => absurd rfl c1523) (fun c1523 => ?_)
    refine qw_aload_n 3 dL_law_1526 rfl rfl ?_
    refine qw_iconst (nI 0) dL_law_1527 (by decide) ?_
    refine qw_lald dL_law_1528 hO (by omega) (by omega) ?_
    rw [hnf _ (by omega), lq_up_s]
    refine qw_iload dL_law_1529 rfl ?_
    refine qw_i2l _ dL_law_1531 rfl ?_
    refine qw_lcmp dL_law_1532 ?_
    rw [q_lc]
    refine qw_if_eq 1538 dL_law_1533 (by decide) (fun c1533 => ?_) (fun c1533 => absurd rfl c1533)
    refine qw_goto 1729 dL_law_1538 (by decide) ?_
    exact qw_weak _ (by simp [lq_le]) (LW.room (by omega) (by omega) (kk _ _ _ _ _ _ _ _ hsh (hI.mut hb hh1 hf1 hmu (hcx.far (g_can2_far hW b1 c0) (fun q1 q2 => by omega)))))
  · have e2 : H 0 = M1 (m + 2) := hI.2.2.1
    have hWr : g_wf (M1 (m + 2)) := hI.hW
    refine qw_istore dL_law_1496 rfl (by decide) ?_
    refine qw_aload_n 2 dL_law_1498 rfl rfl ?_
    refine qw_aload_n 0 dL_law_1499 rfl rfl ?_
    refine qw_iload dL_law_1500 rfl ?_
    refine qw_iconst (nI 1) dL_law_1502 (by decide) ?_
    refine qw_addN dL_law_1503 ?_
    refine qw_xald hX dL_law_1504 (by omega) (by omega) ?_
    refine qw_cvn [_] (k_X9_cancel h9 hWr (u := u) (H := H) hI.2.1 e2) mL_173 dL_law_1505 h9.1 rfl rfl rfl (Nat.le_of_ble_eq_true rfl) (by omega) (by decide) rfl (fun x2 M2 N2 h2 => ?_)
    obtain ⟨h2, hnf⟩ := h2
    rw [← e2] at h2
    obtain ⟨e, hE2, rfl⟩ := h2.resolve_left (fun ⟨j1, d1, g1, d0, _⟩ => ap_cancel hW d1 g1 d0 hE)
    obtain ⟨hee, hne⟩ := ae_cancel hE hE2
    refine qw_istore dL_law_1508 rfl (by decide) ?_
    refine qw_aload_n 2 dL_law_1510 rfl rfl ?_
    refine qw_cvp [] (k_X9_thrown h9) mL_97 dL_law_1511 h9.1 rfl rfl rfl (Nat.le_of_ble_eq_true rfl) (by omega) (by decide) rfl ?_
    rw [lq_up_s]
    refine qw_iload dL_law_1514 rfl ?_
    rw [← hee]
    refine qw_icmp_eq 1521 dL_law_1516 (by decide) (fun c1516 => ?_) (fun c1516 => absurd rfl c1516)
    refine qw_iload dL_law_1521 rfl ?_
    refine qw_if_ne 1538 dL_law_1523 (by decide) (fun c1523 => ?_) (fun c1523 => absurd c1523 hne)
    refine qw_goto 1729 dL_law_1538 (by decide) ?_
    exact qw_weak _ (by simp [lq_le]) (LW.room (by omega) (by omega) (kk _ _ _ _ _ _ _ _ hsh (hI.up hb _)))
theorem c_remove {a b m o L i u kc ks : Nat} {xs : Nat → Int32} (hX : va_X a L xs (lq_u G) (lq_u G).heap) (hL : L ≤ 3072) (hNC : q_NC G) (hb : b + 1607 ≤ m) (hm : m + 273 ≤ o) (hi : i + 6 ≤ L) {H : Nat → Nat → Nat} {tk : Nat → Nat → Nat × Nat} {n : Nat → Nat} (hsh : q_sh9 S b m o) (hI : q_I b m u H tk n M) {Q : lq_P} (kk : ∀ (z1 : Nat) (S1 : lq_S) (M1 : lq_M) (N1 : lq_N) (u1 : Nat) (H1 : Nat → Nat → Nat) (tk1 : Nat → Nat → Nat × Nat) (n1 : Nat → Nat), q_sh9 S1 b m o → q_I b m u1 H1 tk1 n1 M1 → LW G YL_law 30 kc ks Q lq_no z1 S1 M1 N1 1729 [some (.ref a), some (.ref b), some (.ref m), some (.ref o), some (.int (nI i)), none, none] []) : LW G YL_law 30 (kc + 3) (ks + 18) Q lq_no z S M N 1373 [some (.ref a), some (.ref b), some (.ref m), some (.ref o), some (.int (nI i)), none, none] [] := by
  obtain ⟨⟨F, fp, fb, h8⟩, ⟨x0, nb0, h5⟩, ⟨fD, σD, hD⟩, ⟨fh, fo, h9⟩, hO⟩ := id hsh
  have hcx := hI.2.2.2.1 0 (Nat.zero_le u)
  refine qw_aload_n 1 dL_law_1373 rfl rfl ?_
  refine qw_aload_n 0 dL_law_1374 rfl rfl ?_
  refine qw_iload dL_law_1375 rfl ?_
  refine qw_iconst (nI 1) dL_law_1377 (by decide) ?_
  refine qw_addN dL_law_1378 ?_
  refine qw_xald hX dL_law_1379 (by omega) (by omega) ?_
  refine qw_aload_n 0 dL_law_1380 rfl rfl ?_
  refine qw_iload dL_law_1381 rfl ?_
  refine qw_iconst (nI 2) dL_law_1383 (by decide) ?_
  refine qw_addN dL_law_1384 ?_
  refine qw_xald hX dL_law_1385 (by omega) (by omega) ?_
  refine qw_aload_n 3 dL_law_1386 rfl rfl ?_
  refine lq_callSH (As := [.ref b, .int (xs (i + 1)), .int (xs (i + 2)), .ref o]) (k_L_remove hNC h8.1 (k_X8_remove h8 hI.1) (fun r z1 S1 M1 N1 hq => by obtain ⟨-, rfl, -, x9, rfl, -⟩ := hq; exact ⟨⟨x9, rfl⟩, hO⟩) (fun E hE => hE.imp And.left (Or.imp And.left And.left))) sL_164 dL_law_1387 rfl rfl (Nat.le_of_ble_eq_true rfl) (by decide) (by decide) (by omega) (by omega) rfl (fun _ _ _ _ _ h => h.elim) (fun r z1 S1 M1 N1 hw => ?_)
  have hW : g_wf (H 0) := by rw [hI.2.2.1]; exact hI.hW
  rcases hw with ⟨x1, N0, ⟨rfl, rfl, rfl, x9, e9, hV⟩, rfl, rfl⟩ | ⟨E, hE, rfl, rfl, rfl, rfl⟩
  · cases e9
    obtain ⟨k1, k2, b1, b2, f1, f2, c0, hx1, hh1, hf1⟩ := hV
    have em : M1 m = M m := hf1 m (by omega)
    have ed : M1 (m + 2) = M (m + 2) := hf1 (m + 2) (by omega)
    have e2 : H 0 = M1 (m + 2) := by rw [ed]; exact hI.2.2.1
    have hWr : g_wf (M1 (m + 2)) := by rw [← e2]; exact hW
    have hr1 : q_hr M1 m u H := by obtain ⟨k1, k2, k3⟩ := hI.2.1; exact ⟨by rw [em]; exact k1, k2, fun j j1 j2 k hk => by rw [hf1 _ (by omega)]; exact k3 j j1 j2 k hk⟩
    refine qw_istore dL_law_1390 rfl (by decide) ?_
    refine qw_aload_n 2 dL_law_1392 rfl rfl ?_
    refine qw_aload_n 0 dL_law_1393 rfl rfl ?_
    refine qw_iload dL_law_1394 rfl ?_
    refine qw_iconst (nI 1) dL_law_1396 (by decide) ?_
    refine qw_addN dL_law_1397 ?_
    refine qw_xald hX dL_law_1398 (by omega) (by omega) ?_
    refine qw_aload_n 0 dL_law_1399 rfl rfl ?_
    refine qw_iload dL_law_1400 rfl ?_
    refine qw_iconst (nI 2) dL_law_1402 (by decide) ?_
    refine qw_addN dL_law_1403 ?_
    refine qw_xald hX dL_law_1404 (by omega) (by omega) ?_
    refine qw_cvn [_, _] (k_X9_remove h9 hWr (u := u) (H := H) hr1 e2) mL_166 dL_law_1405 h9.1 rfl rfl rfl (Nat.le_of_ble_eq_true rfl) (by omega) (by decide) rfl (fun x2 M2 N2 h2 => ?_)
    obtain ⟨h2, hnf⟩ := h2
    rw [← e2] at h2
    obtain ⟨j1, j2, d1, d2, g1, g2, d0, hx2, hmu⟩ := h2.resolve_right (fun ⟨e, hE2, _⟩ => an_remove hW b1 b2 f1 f2 c0 hE2)
    have h20 := hW.nb
    have h8a := hW.ns
    have hbc := (hW.br b1).2.2.2.2.2.1
    obtain rfl := nI_j f1 g1 (by omega) (by omega)
    obtain rfl := nI_j f2 g2 (by omega) (by omega)
    obtain rfl : x2 = x1 := by rw [hx1, hx2]
    refine qw_istore dL_law_1408 rfl (by decide) ?_
    refine qw_aload_n 2 dL_law_1410 rfl rfl ?_
    refine qw_cvp [] (k_X9_thrown h9) mL_97 dL_law_1411 h9.1 rfl rfl rfl (Nat.le_of_ble_eq_true rfl) (by omega) (by decide) rfl ?_
    rw [hmu.2.2.1]
    refine qw_iload dL_law_1414 rfl ?_
    refine qw_icmp_eq 1421 dL_law_1416 (by decide) (fun c1416 => ?_) (fun c1416 => absurd rfl c1416)
    refine qw_iload dL_law_1421 rfl ?_
    refine qw_if_ne 1438 dL_law_1423 (by decide) (fun c1423 => absurd rfl c1423) (fun c1423 => ?_)
    refine qw_aload_n 3 dL_law_1426 rfl rfl ?_
    refine qw_iconst (nI 0) dL_law_1427 (by decide) ?_
    refine qw_lald dL_law_1428 hO (by omega) (by omega) ?_
    rw [hnf _ (by omega), lq_up_s]
    refine qw_iload dL_law_1429 rfl ?_
    refine qw_i2l _ dL_law_1431 rfl ?_
    refine qw_lcmp dL_law_1432 ?_
    rw [q_lc]
    refine qw_if_eq 1438 dL_law_1433 (by decide) (fun c1433 => ?_) (fun c1433 => absurd rfl c1433)
    refine qw_goto 1729 dL_law_1438 (by decide) ?_
    exact qw_weak _ (by simp [lq_le]) (LW.room (by omega) (by omega) (kk _ _ _ _ _ _ _ _ hsh (hI.mut hb hh1 hf1 hmu (hcx.far (g_rem_far hW b1) (fun q1 q2 => by omega)))))
  · have e2 : H 0 = M1 (m + 2) := hI.2.2.1
    have hWr : g_wf (M1 (m + 2)) := hI.hW
    refine qw_istore dL_law_1390 rfl (by decide) ?_
    refine qw_aload_n 2 dL_law_1392 rfl rfl ?_
    refine qw_aload_n 0 dL_law_1393 rfl rfl ?_
    refine qw_iload dL_law_1394 rfl ?_
    refine qw_iconst (nI 1) dL_law_1396 (by decide) ?_
    refine qw_addN dL_law_1397 ?_
    refine qw_xald hX dL_law_1398 (by omega) (by omega) ?_
    refine qw_aload_n 0 dL_law_1399 rfl rfl ?_
    refine qw_iload dL_law_1400 rfl ?_
    refine qw_iconst (nI 2) dL_law_1402 (by decide) ?_
    refine qw_addN dL_law_1403 ?_
    refine qw_xald hX dL_law_1404 (by omega) (by omega) ?_
    refine qw_cvn [_, _] (k_X9_remove h9 hWr (u := u) (H := H) hI.2.1 e2) mL_166 dL_law_1405 h9.1 rfl rfl rfl (Nat.le_of_ble_eq_true rfl) (by omega) (by decide) rfl (fun x2 M2 N2 h2 => ?_)
    obtain ⟨h2, hnf⟩ := h2
    rw [← e2] at h2
    obtain ⟨e, hE2, rfl⟩ := h2.resolve_left (fun ⟨j1, j2, d1, d2, g1, g2, d0, _⟩ => an_remove hW d1 d2 g1 g2 d0 (q_rmE.x hE))
    obtain ⟨hee, hne⟩ := ae_remove hW hE hE2
    refine qw_istore dL_law_1408 rfl (by decide) ?_
    refine qw_aload_n 2 dL_law_1410 rfl rfl ?_
    refine qw_cvp [] (k_X9_thrown h9) mL_97 dL_law_1411 h9.1 rfl rfl rfl (Nat.le_of_ble_eq_true rfl) (by omega) (by decide) rfl ?_
    rw [lq_up_s]
    refine qw_iload dL_law_1414 rfl ?_
    rw [← hee]
    refine qw_icmp_eq 1421 dL_law_1416 (by decide) (fun c1416 => ?_) (fun c1416 => absurd rfl c1416)
    refine qw_iload dL_law_1421 rfl ?_
    refine qw_if_ne 1438 dL_law_1423 (by decide) (fun c1423 => ?_) (fun c1423 => absurd c1423 hne)
    refine qw_goto 1729 dL_law_1438 (by decide) ?_
    exact qw_weak _ (by simp [lq_le]) (LW.room (by omega) (by omega) (kk _ _ _ _ _ _ _ _ hsh (hI.up hb _)))
theorem c_air {a b m o L i u kc ks : Nat} {xs : Nat → Int32} (hX : va_X a L xs (lq_u G) (lq_u G).heap) (hL : L ≤ 3072) (hNC : q_NC G) (hb : b + 1607 ≤ m) (hm : m + 273 ≤ o) (hi : i + 6 ≤ L) {H : Nat → Nat → Nat} {tk : Nat → Nat → Nat × Nat} {n : Nat → Nat} (hsh : q_sh9 S b m o) (hI : q_I b m u H tk n M) {Q : lq_P} (kk : ∀ (z1 : Nat) (S1 : lq_S) (M1 : lq_M) (N1 : lq_N) (u1 : Nat) (H1 : Nat → Nat → Nat) (tk1 : Nat → Nat → Nat × Nat) (n1 : Nat → Nat), q_sh9 S1 b m o → q_I b m u1 H1 tk1 n1 M1 → LW G YL_law 30 kc ks Q lq_no z1 S1 M1 N1 1729 [some (.ref a), some (.ref b), some (.ref m), some (.ref o), some (.int (nI i)), none, none] []) : LW G YL_law 30 (kc + 3) (ks + 18) Q lq_no z S M N 1441 [some (.ref a), some (.ref b), some (.ref m), some (.ref o), some (.int (nI i)), none, none] [] := by
  obtain ⟨⟨F, fp, fb, h8⟩, ⟨x0, nb0, h5⟩, ⟨fD, σD, hD⟩, ⟨fh, fo, h9⟩, hO⟩ := id hsh
  have hcx := hI.2.2.2.1 0 (Nat.zero_le u)
  refine qw_aload_n 1 dL_law_1441 rfl rfl ?_
  refine qw_aload_n 3 dL_law_1442 rfl rfl ?_
  refine lq_callSH (As := [.ref b, .ref o]) (k_L_air hNC h8.1 (k_X8_air h8 hI.1) (fun r z1 S1 M1 N1 hq => by obtain ⟨-, rfl, -, x9, rfl, -⟩ := hq; exact ⟨⟨x9, rfl⟩, hO⟩) (fun E hE => hE.1)) sL_167 dL_law_1443 rfl rfl (Nat.le_of_ble_eq_true rfl) (by decide) (by decide) (by omega) (by omega) rfl (fun _ _ _ _ _ h => h.elim) (fun r z1 S1 M1 N1 hw => ?_)
  have hW : g_wf (H 0) := by rw [hI.2.2.1]; exact hI.hW
  rcases hw with ⟨x1, N0, ⟨rfl, rfl, rfl, x9, e9, hV⟩, rfl, rfl⟩ | ⟨E, hE, rfl, rfl, rfl, rfl⟩
  · cases e9
    obtain ⟨b1, hx1, hh1, hf1⟩ := hV
    have em : M1 m = M m := hf1 m (by omega)
    have ed : M1 (m + 2) = M (m + 2) := hf1 (m + 2) (by omega)
    have e2 : H 0 = M1 (m + 2) := by rw [ed]; exact hI.2.2.1
    have hWr : g_wf (M1 (m + 2)) := by rw [← e2]; exact hW
    have hr1 : q_hr M1 m u H := by obtain ⟨k1, k2, k3⟩ := hI.2.1; exact ⟨by rw [em]; exact k1, k2, fun j j1 j2 k hk => by rw [hf1 _ (by omega)]; exact k3 j j1 j2 k hk⟩
    refine qw_istore dL_law_1446 rfl (by decide) ?_
    refine qw_aload_n 2 dL_law_1448 rfl rfl ?_
    refine qw_cvi [] (k_X9_air h9 hWr (u := u) (H := H) hr1 e2) mL_170 dL_law_1449 h9.1 rfl rfl rfl (Nat.le_of_ble_eq_true rfl) (by omega) (by decide) rfl (fun x2 M2 h2 => ?_)
    rw [← e2] at h2
    obtain ⟨d1, hx2, hmu⟩ := h2.resolve_right (fun ⟨h, _⟩ => h b1)
    obtain rfl : x2 = x1 := by rw [hx1, hx2]
    refine qw_istore dL_law_1452 rfl (by decide) ?_
    refine qw_aload_n 2 dL_law_1454 rfl rfl ?_
    refine qw_cvp [] (k_X9_thrown h9) mL_97 dL_law_1455 h9.1 rfl rfl rfl (Nat.le_of_ble_eq_true rfl) (by omega) (by decide) rfl ?_
    rw [hmu.2.2.1]
    refine qw_iload dL_law_1458 rfl ?_
    refine qw_icmp_eq 1465 dL_law_1460 (by decide) (fun c1460 => ?_) (fun c1460 => absurd rfl c1460)
    refine qw_iload dL_law_1465 rfl ?_
    refine qw_if_ne 1482 dL_law_1467 (by decide) (fun c1467 => absurd rfl c1467) (fun c1467 => ?_)
    refine qw_aload_n 3 dL_law_1470 rfl rfl ?_
    refine qw_iconst (nI 0) dL_law_1471 (by decide) ?_
    refine qw_lald dL_law_1472 hO (by omega) (by omega) ?_
    rw [lq_up_s]
    refine qw_iload dL_law_1473 rfl ?_
    refine qw_i2l _ dL_law_1475 rfl ?_
    refine qw_lcmp dL_law_1476 ?_
    rw [q_lc]
    refine qw_if_eq 1482 dL_law_1477 (by decide) (fun c1477 => ?_) (fun c1477 => absurd rfl c1477)
    refine qw_goto 1729 dL_law_1482 (by decide) ?_
    exact qw_weak _ (by simp [lq_le]) (LW.room (by omega) (by omega) (kk _ _ _ _ _ _ _ _ hsh (hI.mut hb hh1 hf1 hmu (hcx.far (fun x hx => g_one_o (by have h20 := hW.nb; unfold q_far at hx; omega)) (fun q1 q2 => by omega)))))
  · have e2 : H 0 = M1 (m + 2) := hI.2.2.1
    have hWr : g_wf (M1 (m + 2)) := hI.hW
    refine qw_istore dL_law_1446 rfl (by decide) ?_
    refine qw_aload_n 2 dL_law_1448 rfl rfl ?_
    refine qw_cvi [] (k_X9_air h9 hWr (u := u) (H := H) hI.2.1 e2) mL_170 dL_law_1449 h9.1 rfl rfl rfl (Nat.le_of_ble_eq_true rfl) (by omega) (by decide) rfl (fun x2 M2 h2 => ?_)
    rw [← e2] at h2
    obtain ⟨hE2, rfl⟩ := h2.resolve_left (fun ⟨h, _⟩ => hE.2 h)
    obtain ⟨hee, hne⟩ := (⟨by rw [hE.1]; decide +kernel, by decide⟩ : 1 = q_cod [eIS] E ∧ ¬ nI 1 = 0)
    refine qw_istore dL_law_1452 rfl (by decide) ?_
    refine qw_aload_n 2 dL_law_1454 rfl rfl ?_
    refine qw_cvp [] (k_X9_thrown h9) mL_97 dL_law_1455 h9.1 rfl rfl rfl (Nat.le_of_ble_eq_true rfl) (by omega) (by decide) rfl ?_
    rw [lq_up_s]
    refine qw_iload dL_law_1458 rfl ?_
    rw [← hee]
    refine qw_icmp_eq 1465 dL_law_1460 (by decide) (fun c1460 => ?_) (fun c1460 => absurd rfl c1460)
    refine qw_iload dL_law_1465 rfl ?_
    refine qw_if_ne 1482 dL_law_1467 (by decide) (fun c1467 => ?_) (fun c1467 => absurd c1467 hne)
    refine qw_goto 1729 dL_law_1482 (by decide) ?_
    exact qw_weak _ (by simp [lq_le]) (LW.room (by omega) (by omega) (kk _ _ _ _ _ _ _ _ hsh (hI.up hb _)))
end LM_
