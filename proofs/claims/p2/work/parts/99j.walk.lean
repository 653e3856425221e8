/-! THE LAW'S WALK -/
section WALK
variable {p : Program} {e : Env} {s : State} {m : MethodId} {below : List Frame} {meth : Method} {c : Code} {l : Launch} {b L : Nat} {xs : Nat → Int32} {D : va_G} {tys : List (ClassId × FieldType)} {j kc ks : Nat} {h : aH} {J : aH → Nat → Nat → Prop}
theorem lg_cmp0 (x : Int64) : lg_cmp x x = 0 := by unfold lg_cmp; simp
theorem cs_0 (C : LC p s m meth c b L xs D tys) (hj : j + 6 ≤ L) (hp : aBoth (fun x => ∃ u : Int32, x = .inl u) (fun x y => ∃ u : Int32, x = .inl u ∧ y = .inl u) 124 191 [.inl (xs (j + 1)), .inl (xs (j + 2))] J h kc ks) (kk : ∀ h kc ks, J h kc ks → LG p l e s m below meth c b D tys 0 69 j 1822 [] h kc ks) : LG p l e s m below meth c b D tys 0 69 j 216 [] h kc ks := by
  obtain ⟨mc, ms, fs, a1, a2, a3, a4⟩ := hp
  refine lg_x C (show decode code 216 = .ok (.aload_n 1, 1) by decide +kernel) ?_
  refine lg_arg 1 C rfl (by omega) (show decode code 217 = .ok (.aload_n 0, 1) by decide +kernel) (show decode code 218 = .ok (.iload_n 3, 1) by decide +kernel) (show decode code 219 = .ok (.iconst 1, 1) by decide +kernel) (show decode code 220 = .ok (.iadd, 1) by decide +kernel) (show decode code 221 = .ok (.iaload, 1) by decide +kernel) ?_
  refine lg_arg 2 C rfl (by omega) (show decode code 222 = .ok (.aload_n 0, 1) by decide +kernel) (show decode code 223 = .ok (.iload_n 3, 1) by decide +kernel) (show decode code 224 = .ok (.iconst 2, 1) by decide +kernel) (show decode code 225 = .ok (.iadd, 1) by decide +kernel) (show decode code 226 = .ok (.iaload, 1) by decide +kernel) ?_
  refine lg_call (M := mX11_great) (ci := 11) (N := 8) (T := TX11) (ok_all 60) (by decide) C mt_124 fc_X11_great fi_X11_great rfl lk_408 lk_409 lk_410 fd_X11_great (by decide) (show decode code 227 = .ok (.invokevirtual 13, 3) by decide +kernel) (vs := [.inl (xs (j + 1)), .inl (xs (j + 2))]) (rest := []) rfl rfl (Nat.zero_le _) a3 a1 a2 a4 (fun r h1 hr => ?_)
  obtain ⟨x, mc2, ms2, gs, rfl, p1, b1, b2, b3, b4⟩ := hr
  obtain ⟨u, rfl⟩ := p1
  refine lg_m C (show decode code 230 = .ok (.aload_n 2, 1) by decide +kernel) ?_
  refine lg_arg 1 C rfl (by omega) (show decode code 231 = .ok (.aload_n 0, 1) by decide +kernel) (show decode code 232 = .ok (.iload_n 3, 1) by decide +kernel) (show decode code 233 = .ok (.iconst 1, 1) by decide +kernel) (show decode code 234 = .ok (.iadd, 1) by decide +kernel) (show decode code 235 = .ok (.iaload, 1) by decide +kernel) ?_
  refine lg_arg 2 C rfl (by omega) (show decode code 236 = .ok (.aload_n 0, 1) by decide +kernel) (show decode code 237 = .ok (.iload_n 3, 1) by decide +kernel) (show decode code 238 = .ok (.iconst 2, 1) by decide +kernel) (show decode code 239 = .ok (.iadd, 1) by decide +kernel) (show decode code 240 = .ok (.iaload, 1) by decide +kernel) ?_
  refine lg_call (M := mX12_great) (ci := 12) (N := 69) (T := TX12) (ok_all 60) (by decide) C mt_191 fc_X12_great fi_X12_great rfl lk_1640 lk_1641 lk_1642 fd_X12_great (by decide) (show decode code 241 = .ok (.invokevirtual 17, 3) by decide +kernel) (vs := [.inl (xs (j + 1)), .inl (xs (j + 2))]) (rest := [.inl u]) rfl rfl (Nat.le_of_ble_eq_true rfl) b3 b1 b2 b4 (fun r h2 hr => ?_)
  obtain ⟨⟨y, rfl, u2, e1, rfl⟩, hJ⟩ := hr
  cases e1
  refine lg_eq (t := 1822) C (show decode code 244 = .ok (.if_icmp .eq 1578, 3) by decide +kernel) (by decide) ?_
  exact kk _ _ _ hJ
theorem cs_1 (C : LC p s m meth c b L xs D tys) (hj : j + 6 ≤ L) (hp : aBoth (fun x => ∃ u : Int32, x = .inl u) (fun x y => (∃ u : Int32, x = .inl u) ∧ ∃ u : Int32, y = .inl u) 125 193 [.inl (xs (j + 1)), .inl (xs (j + 2)), .inl (xs (j + 3)), .inl (xs (j + 4))] J h kc ks) (kk : ∀ h kc ks, J h kc ks → LG p l e s m below meth c b D tys 0 69 j 1822 [] h kc ks) : LG p l e s m below meth c b D tys 0 69 j 249 [] h kc ks := by
  obtain ⟨mc, ms, fs, a1, a2, a3, a4⟩ := hp
  refine lg_x C (show decode code 249 = .ok (.aload_n 1, 1) by decide +kernel) ?_
  refine lg_arg 1 C rfl (by omega) (show decode code 250 = .ok (.aload_n 0, 1) by decide +kernel) (show decode code 251 = .ok (.iload_n 3, 1) by decide +kernel) (show decode code 252 = .ok (.iconst 1, 1) by decide +kernel) (show decode code 253 = .ok (.iadd, 1) by decide +kernel) (show decode code 254 = .ok (.iaload, 1) by decide +kernel) ?_
  refine lg_arg 2 C rfl (by omega) (show decode code 255 = .ok (.aload_n 0, 1) by decide +kernel) (show decode code 256 = .ok (.iload_n 3, 1) by decide +kernel) (show decode code 257 = .ok (.iconst 2, 1) by decide +kernel) (show decode code 258 = .ok (.iadd, 1) by decide +kernel) (show decode code 259 = .ok (.iaload, 1) by decide +kernel) ?_
  refine lg_arg 3 C rfl (by omega) (show decode code 260 = .ok (.aload_n 0, 1) by decide +kernel) (show decode code 261 = .ok (.iload_n 3, 1) by decide +kernel) (show decode code 262 = .ok (.iconst 3, 1) by decide +kernel) (show decode code 263 = .ok (.iadd, 1) by decide +kernel) (show decode code 264 = .ok (.iaload, 1) by decide +kernel) ?_
  refine lg_arg 4 C rfl (by omega) (show decode code 265 = .ok (.aload_n 0, 1) by decide +kernel) (show decode code 266 = .ok (.iload_n 3, 1) by decide +kernel) (show decode code 267 = .ok (.iconst 4, 1) by decide +kernel) (show decode code 268 = .ok (.iadd, 1) by decide +kernel) (show decode code 269 = .ok (.iaload, 1) by decide +kernel) ?_
  refine lg_call (M := mX11_comet) (ci := 11) (N := 8) (T := TX11) (ok_all 60) (by decide) C mt_125 fc_X11_comet fi_X11_comet rfl lk_465 lk_466 lk_467 fd_X11_comet (by decide) (show decode code 270 = .ok (.invokevirtual 18, 3) by decide +kernel) (vs := [.inl (xs (j + 1)), .inl (xs (j + 2)), .inl (xs (j + 3)), .inl (xs (j + 4))]) (rest := []) rfl rfl (Nat.zero_le _) a3 a1 a2 a4 (fun r h1 hr => ?_)
  obtain ⟨x, mc2, ms2, gs, rfl, p1, b1, b2, b3, b4⟩ := hr
  obtain ⟨u, rfl⟩ := p1
  refine lg_pop C (show decode code 273 = .ok (.pop, 1) by decide +kernel) ?_
  refine lg_m C (show decode code 274 = .ok (.aload_n 2, 1) by decide +kernel) ?_
  refine lg_arg 1 C rfl (by omega) (show decode code 275 = .ok (.aload_n 0, 1) by decide +kernel) (show decode code 276 = .ok (.iload_n 3, 1) by decide +kernel) (show decode code 277 = .ok (.iconst 1, 1) by decide +kernel) (show decode code 278 = .ok (.iadd, 1) by decide +kernel) (show decode code 279 = .ok (.iaload, 1) by decide +kernel) ?_
  refine lg_arg 2 C rfl (by omega) (show decode code 280 = .ok (.aload_n 0, 1) by decide +kernel) (show decode code 281 = .ok (.iload_n 3, 1) by decide +kernel) (show decode code 282 = .ok (.iconst 2, 1) by decide +kernel) (show decode code 283 = .ok (.iadd, 1) by decide +kernel) (show decode code 284 = .ok (.iaload, 1) by decide +kernel) ?_
  refine lg_arg 3 C rfl (by omega) (show decode code 285 = .ok (.aload_n 0, 1) by decide +kernel) (show decode code 286 = .ok (.iload_n 3, 1) by decide +kernel) (show decode code 287 = .ok (.iconst 3, 1) by decide +kernel) (show decode code 288 = .ok (.iadd, 1) by decide +kernel) (show decode code 289 = .ok (.iaload, 1) by decide +kernel) ?_
  refine lg_arg 4 C rfl (by omega) (show decode code 290 = .ok (.aload_n 0, 1) by decide +kernel) (show decode code 291 = .ok (.iload_n 3, 1) by decide +kernel) (show decode code 292 = .ok (.iconst 4, 1) by decide +kernel) (show decode code 293 = .ok (.iadd, 1) by decide +kernel) (show decode code 294 = .ok (.iaload, 1) by decide +kernel) ?_
  refine lg_call (M := mX12_comet) (ci := 12) (N := 69) (T := TX12) (ok_all 60) (by decide) C mt_193 fc_X12_comet fi_X12_comet rfl lk_1647 lk_1648 lk_1649 fd_X12_comet (by decide) (show decode code 295 = .ok (.invokevirtual 22, 3) by decide +kernel) (vs := [.inl (xs (j + 1)), .inl (xs (j + 2)), .inl (xs (j + 3)), .inl (xs (j + 4))]) (rest := []) rfl rfl (Nat.zero_le _) b3 b1 b2 b4 (fun r h2 hr => ?_)
  obtain ⟨⟨y, rfl, -, v, rfl⟩, hJ⟩ := hr
  refine lg_pop C (show decode code 298 = .ok (.pop, 1) by decide +kernel) ?_
  refine lg_go (t := 1822) C (show decode code 299 = .ok (.goto 1523, 3) by decide +kernel) (by decide) ?_
  exact kk _ _ _ hJ
theorem cs_2 (C : LC p s m meth c b L xs D tys) (hj : j + 6 ≤ L) (hp : aBoth (fun x => ∃ u : Int32, x = .inl u) (fun x y => (∃ u : Int32, x = .inl u) ∧ ∃ u : Int32, y = .inl u) 126 194 [.inl (xs (j + 1)), .inl (xs (j + 2))] J h kc ks) (kk : ∀ h kc ks, J h kc ks → LG p l e s m below meth c b D tys 0 69 j 1822 [] h kc ks) : LG p l e s m below meth c b D tys 0 69 j 302 [] h kc ks := by
  obtain ⟨mc, ms, fs, a1, a2, a3, a4⟩ := hp
  refine lg_x C (show decode code 302 = .ok (.aload_n 1, 1) by decide +kernel) ?_
  refine lg_arg 1 C rfl (by omega) (show decode code 303 = .ok (.aload_n 0, 1) by decide +kernel) (show decode code 304 = .ok (.iload_n 3, 1) by decide +kernel) (show decode code 305 = .ok (.iconst 1, 1) by decide +kernel) (show decode code 306 = .ok (.iadd, 1) by decide +kernel) (show decode code 307 = .ok (.iaload, 1) by decide +kernel) ?_
  refine lg_arg 2 C rfl (by omega) (show decode code 308 = .ok (.aload_n 0, 1) by decide +kernel) (show decode code 309 = .ok (.iload_n 3, 1) by decide +kernel) (show decode code 310 = .ok (.iconst 2, 1) by decide +kernel) (show decode code 311 = .ok (.iadd, 1) by decide +kernel) (show decode code 312 = .ok (.iaload, 1) by decide +kernel) ?_
  refine lg_call (M := mX11_ofComet) (ci := 11) (N := 8) (T := TX11) (ok_all 60) (by decide) C mt_126 fc_X11_ofComet fi_X11_ofComet rfl lk_557 lk_558 lk_559 fd_X11_ofComet (by decide) (show decode code 313 = .ok (.invokevirtual 23, 3) by decide +kernel) (vs := [.inl (xs (j + 1)), .inl (xs (j + 2))]) (rest := []) rfl rfl (Nat.zero_le _) a3 a1 a2 a4 (fun r h1 hr => ?_)
  obtain ⟨x, mc2, ms2, gs, rfl, p1, b1, b2, b3, b4⟩ := hr
  obtain ⟨u, rfl⟩ := p1
  refine lg_pop C (show decode code 316 = .ok (.pop, 1) by decide +kernel) ?_
  refine lg_m C (show decode code 317 = .ok (.aload_n 2, 1) by decide +kernel) ?_
  refine lg_arg 1 C rfl (by omega) (show decode code 318 = .ok (.aload_n 0, 1) by decide +kernel) (show decode code 319 = .ok (.iload_n 3, 1) by decide +kernel) (show decode code 320 = .ok (.iconst 1, 1) by decide +kernel) (show decode code 321 = .ok (.iadd, 1) by decide +kernel) (show decode code 322 = .ok (.iaload, 1) by decide +kernel) ?_
  refine lg_arg 2 C rfl (by omega) (show decode code 323 = .ok (.aload_n 0, 1) by decide +kernel) (show decode code 324 = .ok (.iload_n 3, 1) by decide +kernel) (show decode code 325 = .ok (.iconst 2, 1) by decide +kernel) (show decode code 326 = .ok (.iadd, 1) by decide +kernel) (show decode code 327 = .ok (.iaload, 1) by decide +kernel) ?_
  refine lg_call (M := mX12_ofComet) (ci := 12) (N := 69) (T := TX12) (ok_all 60) (by decide) C mt_194 fc_X12_ofComet fi_X12_ofComet rfl lk_1663 lk_1664 lk_1665 fd_X12_ofComet (by decide) (show decode code 328 = .ok (.invokevirtual 26, 3) by decide +kernel) (vs := [.inl (xs (j + 1)), .inl (xs (j + 2))]) (rest := []) rfl rfl (Nat.zero_le _) b3 b1 b2 b4 (fun r h2 hr => ?_)
  obtain ⟨⟨y, rfl, -, v, rfl⟩, hJ⟩ := hr
  refine lg_pop C (show decode code 331 = .ok (.pop, 1) by decide +kernel) ?_
  refine lg_go (t := 1822) C (show decode code 332 = .ok (.goto 1490, 3) by decide +kernel) (by decide) ?_
  exact kk _ _ _ hJ
theorem cs_3 (C : LC p s m meth c b L xs D tys) (hj : j + 6 ≤ L) (hp : aBoth (fun x => ∃ u : Int32, x = .inl u) (fun x y => (∃ u : Int32, x = .inl u) ∧ ∃ u : Int32, y = .inl u) 127 202 [.inl (xs (j + 1)), .inl (xs (j + 2)), .inl (xs (j + 3))] J h kc ks) (kk : ∀ h kc ks, J h kc ks → LG p l e s m below meth c b D tys 0 69 j 1822 [] h kc ks) : LG p l e s m below meth c b D tys 0 69 j 335 [] h kc ks := by
  obtain ⟨mc, ms, fs, a1, a2, a3, a4⟩ := hp
  refine lg_x C (show decode code 335 = .ok (.aload_n 1, 1) by decide +kernel) ?_
  refine lg_arg 1 C rfl (by omega) (show decode code 336 = .ok (.aload_n 0, 1) by decide +kernel) (show decode code 337 = .ok (.iload_n 3, 1) by decide +kernel) (show decode code 338 = .ok (.iconst 1, 1) by decide +kernel) (show decode code 339 = .ok (.iadd, 1) by decide +kernel) (show decode code 340 = .ok (.iaload, 1) by decide +kernel) ?_
  refine lg_arg 2 C rfl (by omega) (show decode code 341 = .ok (.aload_n 0, 1) by decide +kernel) (show decode code 342 = .ok (.iload_n 3, 1) by decide +kernel) (show decode code 343 = .ok (.iconst 2, 1) by decide +kernel) (show decode code 344 = .ok (.iadd, 1) by decide +kernel) (show decode code 345 = .ok (.iaload, 1) by decide +kernel) ?_
  refine lg_arg 3 C rfl (by omega) (show decode code 346 = .ok (.aload_n 0, 1) by decide +kernel) (show decode code 347 = .ok (.iload_n 3, 1) by decide +kernel) (show decode code 348 = .ok (.iconst 3, 1) by decide +kernel) (show decode code 349 = .ok (.iadd, 1) by decide +kernel) (show decode code 350 = .ok (.iaload, 1) by decide +kernel) ?_
  refine lg_call (M := mX11_pass) (ci := 11) (N := 8) (T := TX11) (ok_all 60) (by decide) C mt_127 fc_X11_pass fi_X11_pass rfl lk_566 lk_567 lk_568 fd_X11_pass (by decide) (show decode code 351 = .ok (.invokevirtual 27, 3) by decide +kernel) (vs := [.inl (xs (j + 1)), .inl (xs (j + 2)), .inl (xs (j + 3))]) (rest := []) rfl rfl (Nat.zero_le _) a3 a1 a2 a4 (fun r h1 hr => ?_)
  obtain ⟨x, mc2, ms2, gs, rfl, p1, b1, b2, b3, b4⟩ := hr
  obtain ⟨u, rfl⟩ := p1
  refine lg_pop C (show decode code 354 = .ok (.pop, 1) by decide +kernel) ?_
  refine lg_m C (show decode code 355 = .ok (.aload_n 2, 1) by decide +kernel) ?_
  refine lg_arg 1 C rfl (by omega) (show decode code 356 = .ok (.aload_n 0, 1) by decide +kernel) (show decode code 357 = .ok (.iload_n 3, 1) by decide +kernel) (show decode code 358 = .ok (.iconst 1, 1) by decide +kernel) (show decode code 359 = .ok (.iadd, 1) by decide +kernel) (show decode code 360 = .ok (.iaload, 1) by decide +kernel) ?_
  refine lg_arg 2 C rfl (by omega) (show decode code 361 = .ok (.aload_n 0, 1) by decide +kernel) (show decode code 362 = .ok (.iload_n 3, 1) by decide +kernel) (show decode code 363 = .ok (.iconst 2, 1) by decide +kernel) (show decode code 364 = .ok (.iadd, 1) by decide +kernel) (show decode code 365 = .ok (.iaload, 1) by decide +kernel) ?_
  refine lg_arg 3 C rfl (by omega) (show decode code 366 = .ok (.aload_n 0, 1) by decide +kernel) (show decode code 367 = .ok (.iload_n 3, 1) by decide +kernel) (show decode code 368 = .ok (.iconst 3, 1) by decide +kernel) (show decode code 369 = .ok (.iadd, 1) by decide +kernel) (show decode code 370 = .ok (.iaload, 1) by decide +kernel) ?_
  refine lg_call (M := mX12_pass) (ci := 12) (N := 69) (T := TX12) (ok_all 60) (by decide) C mt_202 fc_X12_pass fi_X12_pass rfl lk_1671 lk_1672 lk_1673 fd_X12_pass (by decide) (show decode code 371 = .ok (.invokevirtual 31, 3) by decide +kernel) (vs := [.inl (xs (j + 1)), .inl (xs (j + 2)), .inl (xs (j + 3))]) (rest := []) rfl rfl (Nat.zero_le _) b3 b1 b2 b4 (fun r h2 hr => ?_)
  obtain ⟨⟨y, rfl, -, v, rfl⟩, hJ⟩ := hr
  refine lg_pop C (show decode code 374 = .ok (.pop, 1) by decide +kernel) ?_
  refine lg_go (t := 1822) C (show decode code 375 = .ok (.goto 1447, 3) by decide +kernel) (by decide) ?_
  exact kk _ _ _ hJ
theorem cs_4 (C : LC p s m meth c b L xs D tys) (hj : j + 6 ≤ L) (hp : aBoth (fun x => ∃ u : Int32, x = .inl u) (fun x y => (∃ u : Int32, x = .inl u) ∧ ∃ u : Int32, y = .inl u) 128 209 [.inl (xs (j + 1)), .inl (xs (j + 2)), .inl (xs (j + 3)), .inl (xs (j + 4))] J h kc ks) (kk : ∀ h kc ks, J h kc ks → LG p l e s m below meth c b D tys 0 69 j 1822 [] h kc ks) : LG p l e s m below meth c b D tys 0 69 j 378 [] h kc ks := by
  obtain ⟨mc, ms, fs, a1, a2, a3, a4⟩ := hp
  refine lg_x C (show decode code 378 = .ok (.aload_n 1, 1) by decide +kernel) ?_
  refine lg_arg 1 C rfl (by omega) (show decode code 379 = .ok (.aload_n 0, 1) by decide +kernel) (show decode code 380 = .ok (.iload_n 3, 1) by decide +kernel) (show decode code 381 = .ok (.iconst 1, 1) by decide +kernel) (show decode code 382 = .ok (.iadd, 1) by decide +kernel) (show decode code 383 = .ok (.iaload, 1) by decide +kernel) ?_
  refine lg_arg 2 C rfl (by omega) (show decode code 384 = .ok (.aload_n 0, 1) by decide +kernel) (show decode code 385 = .ok (.iload_n 3, 1) by decide +kernel) (show decode code 386 = .ok (.iconst 2, 1) by decide +kernel) (show decode code 387 = .ok (.iadd, 1) by decide +kernel) (show decode code 388 = .ok (.iaload, 1) by decide +kernel) ?_
  refine lg_arg 3 C rfl (by omega) (show decode code 389 = .ok (.aload_n 0, 1) by decide +kernel) (show decode code 390 = .ok (.iload_n 3, 1) by decide +kernel) (show decode code 391 = .ok (.iconst 3, 1) by decide +kernel) (show decode code 392 = .ok (.iadd, 1) by decide +kernel) (show decode code 393 = .ok (.iaload, 1) by decide +kernel) ?_
  refine lg_arg 4 C rfl (by omega) (show decode code 394 = .ok (.aload_n 0, 1) by decide +kernel) (show decode code 395 = .ok (.iload_n 3, 1) by decide +kernel) (show decode code 396 = .ok (.iconst 4, 1) by decide +kernel) (show decode code 397 = .ok (.iadd, 1) by decide +kernel) (show decode code 398 = .ok (.iaload, 1) by decide +kernel) ?_
  refine lg_call (M := mX11_stands) (ci := 11) (N := 8) (T := TX11) (ok_all 60) (by decide) C mt_128 fc_X11_stands fi_X11_stands rfl lk_581 lk_582 lk_583 fd_X11_stands (by decide) (show decode code 399 = .ok (.invokevirtual 32, 3) by decide +kernel) (vs := [.inl (xs (j + 1)), .inl (xs (j + 2)), .inl (xs (j + 3)), .inl (xs (j + 4))]) (rest := []) rfl rfl (Nat.zero_le _) a3 a1 a2 a4 (fun r h1 hr => ?_)
  obtain ⟨x, mc2, ms2, gs, rfl, p1, b1, b2, b3, b4⟩ := hr
  obtain ⟨u, rfl⟩ := p1
  refine lg_pop C (show decode code 402 = .ok (.pop, 1) by decide +kernel) ?_
  refine lg_m C (show decode code 403 = .ok (.aload_n 2, 1) by decide +kernel) ?_
  refine lg_arg 1 C rfl (by omega) (show decode code 404 = .ok (.aload_n 0, 1) by decide +kernel) (show decode code 405 = .ok (.iload_n 3, 1) by decide +kernel) (show decode code 406 = .ok (.iconst 1, 1) by decide +kernel) (show decode code 407 = .ok (.iadd, 1) by decide +kernel) (show decode code 408 = .ok (.iaload, 1) by decide +kernel) ?_
  refine lg_arg 2 C rfl (by omega) (show decode code 409 = .ok (.aload_n 0, 1) by decide +kernel) (show decode code 410 = .ok (.iload_n 3, 1) by decide +kernel) (show decode code 411 = .ok (.iconst 2, 1) by decide +kernel) (show decode code 412 = .ok (.iadd, 1) by decide +kernel) (show decode code 413 = .ok (.iaload, 1) by decide +kernel) ?_
  refine lg_arg 3 C rfl (by omega) (show decode code 414 = .ok (.aload_n 0, 1) by decide +kernel) (show decode code 415 = .ok (.iload_n 3, 1) by decide +kernel) (show decode code 416 = .ok (.iconst 3, 1) by decide +kernel) (show decode code 417 = .ok (.iadd, 1) by decide +kernel) (show decode code 418 = .ok (.iaload, 1) by decide +kernel) ?_
  refine lg_arg 4 C rfl (by omega) (show decode code 419 = .ok (.aload_n 0, 1) by decide +kernel) (show decode code 420 = .ok (.iload_n 3, 1) by decide +kernel) (show decode code 421 = .ok (.iconst 4, 1) by decide +kernel) (show decode code 422 = .ok (.iadd, 1) by decide +kernel) (show decode code 423 = .ok (.iaload, 1) by decide +kernel) ?_
  refine lg_call (M := mX12_stands) (ci := 12) (N := 69) (T := TX12) (ok_all 60) (by decide) C mt_209 fc_X12_stands fi_X12_stands rfl lk_1709 lk_1710 lk_1711 fd_X12_stands (by decide) (show decode code 424 = .ok (.invokevirtual 35, 3) by decide +kernel) (vs := [.inl (xs (j + 1)), .inl (xs (j + 2)), .inl (xs (j + 3)), .inl (xs (j + 4))]) (rest := []) rfl rfl (Nat.zero_le _) b3 b1 b2 b4 (fun r h2 hr => ?_)
  obtain ⟨⟨y, rfl, -, v, rfl⟩, hJ⟩ := hr
  refine lg_pop C (show decode code 427 = .ok (.pop, 1) by decide +kernel) ?_
  refine lg_go (t := 1822) C (show decode code 428 = .ok (.goto 1394, 3) by decide +kernel) (by decide) ?_
  exact kk _ _ _ hJ
theorem cs_5 (C : LC p s m meth c b L xs D tys) (hj : j + 6 ≤ L) (hp : aBoth (fun x => ∃ u : Int32, x = .inl u) (fun x y => (∃ u : Int32, x = .inl u) ∧ ∃ u : Int32, y = .inl u) 129 211 [.inl (xs (j + 1)), .inl (xs (j + 2)), .inl (xs (j + 3))] J h kc ks) (kk : ∀ h kc ks, J h kc ks → LG p l e s m below meth c b D tys 0 69 j 1822 [] h kc ks) : LG p l e s m below meth c b D tys 0 69 j 431 [] h kc ks := by
  obtain ⟨mc, ms, fs, a1, a2, a3, a4⟩ := hp
  refine lg_x C (show decode code 431 = .ok (.aload_n 1, 1) by decide +kernel) ?_
  refine lg_arg 1 C rfl (by omega) (show decode code 432 = .ok (.aload_n 0, 1) by decide +kernel) (show decode code 433 = .ok (.iload_n 3, 1) by decide +kernel) (show decode code 434 = .ok (.iconst 1, 1) by decide +kernel) (show decode code 435 = .ok (.iadd, 1) by decide +kernel) (show decode code 436 = .ok (.iaload, 1) by decide +kernel) ?_
  refine lg_arg 2 C rfl (by omega) (show decode code 437 = .ok (.aload_n 0, 1) by decide +kernel) (show decode code 438 = .ok (.iload_n 3, 1) by decide +kernel) (show decode code 439 = .ok (.iconst 2, 1) by decide +kernel) (show decode code 440 = .ok (.iadd, 1) by decide +kernel) (show decode code 441 = .ok (.iaload, 1) by decide +kernel) ?_
  refine lg_arg 3 C rfl (by omega) (show decode code 442 = .ok (.aload_n 0, 1) by decide +kernel) (show decode code 443 = .ok (.iload_n 3, 1) by decide +kernel) (show decode code 444 = .ok (.iconst 3, 1) by decide +kernel) (show decode code 445 = .ok (.iadd, 1) by decide +kernel) (show decode code 446 = .ok (.iaload, 1) by decide +kernel) ?_
  refine lg_call (M := mX11_seen) (ci := 11) (N := 8) (T := TX11) (ok_all 60) (by decide) C mt_129 fc_X11_seen fi_X11_seen rfl lk_636 lk_637 lk_638 fd_X11_seen (by decide) (show decode code 447 = .ok (.invokevirtual 36, 3) by decide +kernel) (vs := [.inl (xs (j + 1)), .inl (xs (j + 2)), .inl (xs (j + 3))]) (rest := []) rfl rfl (Nat.zero_le _) a3 a1 a2 a4 (fun r h1 hr => ?_)
  obtain ⟨x, mc2, ms2, gs, rfl, p1, b1, b2, b3, b4⟩ := hr
  obtain ⟨u, rfl⟩ := p1
  refine lg_pop C (show decode code 450 = .ok (.pop, 1) by decide +kernel) ?_
  refine lg_m C (show decode code 451 = .ok (.aload_n 2, 1) by decide +kernel) ?_
  refine lg_arg 1 C rfl (by omega) (show decode code 452 = .ok (.aload_n 0, 1) by decide +kernel) (show decode code 453 = .ok (.iload_n 3, 1) by decide +kernel) (show decode code 454 = .ok (.iconst 1, 1) by decide +kernel) (show decode code 455 = .ok (.iadd, 1) by decide +kernel) (show decode code 456 = .ok (.iaload, 1) by decide +kernel) ?_
  refine lg_arg 2 C rfl (by omega) (show decode code 457 = .ok (.aload_n 0, 1) by decide +kernel) (show decode code 458 = .ok (.iload_n 3, 1) by decide +kernel) (show decode code 459 = .ok (.iconst 2, 1) by decide +kernel) (show decode code 460 = .ok (.iadd, 1) by decide +kernel) (show decode code 461 = .ok (.iaload, 1) by decide +kernel) ?_
  refine lg_arg 3 C rfl (by omega) (show decode code 462 = .ok (.aload_n 0, 1) by decide +kernel) (show decode code 463 = .ok (.iload_n 3, 1) by decide +kernel) (show decode code 464 = .ok (.iconst 3, 1) by decide +kernel) (show decode code 465 = .ok (.iadd, 1) by decide +kernel) (show decode code 466 = .ok (.iaload, 1) by decide +kernel) ?_
  refine lg_call (M := mX12_seen) (ci := 12) (N := 69) (T := TX12) (ok_all 60) (by decide) C mt_211 fc_X12_seen fi_X12_seen rfl lk_1746 lk_1747 lk_1748 fd_X12_seen (by decide) (show decode code 467 = .ok (.invokevirtual 39, 3) by decide +kernel) (vs := [.inl (xs (j + 1)), .inl (xs (j + 2)), .inl (xs (j + 3))]) (rest := []) rfl rfl (Nat.zero_le _) b3 b1 b2 b4 (fun r h2 hr => ?_)
  obtain ⟨⟨y, rfl, -, v, rfl⟩, hJ⟩ := hr
  refine lg_pop C (show decode code 470 = .ok (.pop, 1) by decide +kernel) ?_
  refine lg_go (t := 1822) C (show decode code 471 = .ok (.goto 1351, 3) by decide +kernel) (by decide) ?_
  exact kk _ _ _ hJ
theorem cs_6 (C : LC p s m meth c b L xs D tys) (hj : j + 6 ≤ L) (hp : aBoth (fun x => ∃ u : Int32, x = .inl u) (fun x y => (∃ u : Int32, x = .inl u) ∧ ∃ u : Int32, y = .inl u) 130 212 [.inl (xs (j + 1)), .inl (xs (j + 2))] J h kc ks) (kk : ∀ h kc ks, J h kc ks → LG p l e s m below meth c b D tys 0 69 j 1822 [] h kc ks) : LG p l e s m below meth c b D tys 0 69 j 474 [] h kc ks := by
  obtain ⟨mc, ms, fs, a1, a2, a3, a4⟩ := hp
  refine lg_x C (show decode code 474 = .ok (.aload_n 1, 1) by decide +kernel) ?_
  refine lg_arg 1 C rfl (by omega) (show decode code 475 = .ok (.aload_n 0, 1) by decide +kernel) (show decode code 476 = .ok (.iload_n 3, 1) by decide +kernel) (show decode code 477 = .ok (.iconst 1, 1) by decide +kernel) (show decode code 478 = .ok (.iadd, 1) by decide +kernel) (show decode code 479 = .ok (.iaload, 1) by decide +kernel) ?_
  refine lg_arg 2 C rfl (by omega) (show decode code 480 = .ok (.aload_n 0, 1) by decide +kernel) (show decode code 481 = .ok (.iload_n 3, 1) by decide +kernel) (show decode code 482 = .ok (.iconst 2, 1) by decide +kernel) (show decode code 483 = .ok (.iadd, 1) by decide +kernel) (show decode code 484 = .ok (.iaload, 1) by decide +kernel) ?_
  refine lg_call (M := mX11_feed) (ci := 11) (N := 8) (T := TX11) (ok_all 60) (by decide) C mt_130 fc_X11_feed fi_X11_feed rfl lk_655 lk_656 lk_657 fd_X11_feed (by decide) (show decode code 485 = .ok (.invokevirtual 40, 3) by decide +kernel) (vs := [.inl (xs (j + 1)), .inl (xs (j + 2))]) (rest := []) rfl rfl (Nat.zero_le _) a3 a1 a2 a4 (fun r h1 hr => ?_)
  obtain ⟨x, mc2, ms2, gs, rfl, p1, b1, b2, b3, b4⟩ := hr
  obtain ⟨u, rfl⟩ := p1
  refine lg_pop C (show decode code 488 = .ok (.pop, 1) by decide +kernel) ?_
  refine lg_m C (show decode code 489 = .ok (.aload_n 2, 1) by decide +kernel) ?_
  refine lg_arg 1 C rfl (by omega) (show decode code 490 = .ok (.aload_n 0, 1) by decide +kernel) (show decode code 491 = .ok (.iload_n 3, 1) by decide +kernel) (show decode code 492 = .ok (.iconst 1, 1) by decide +kernel) (show decode code 493 = .ok (.iadd, 1) by decide +kernel) (show decode code 494 = .ok (.iaload, 1) by decide +kernel) ?_
  refine lg_arg 2 C rfl (by omega) (show decode code 495 = .ok (.aload_n 0, 1) by decide +kernel) (show decode code 496 = .ok (.iload_n 3, 1) by decide +kernel) (show decode code 497 = .ok (.iconst 2, 1) by decide +kernel) (show decode code 498 = .ok (.iadd, 1) by decide +kernel) (show decode code 499 = .ok (.iaload, 1) by decide +kernel) ?_
  refine lg_call (M := mX12_feed) (ci := 12) (N := 69) (T := TX12) (ok_all 60) (by decide) C mt_212 fc_X12_feed fi_X12_feed rfl lk_1761 lk_1762 lk_1763 fd_X12_feed (by decide) (show decode code 500 = .ok (.invokevirtual 43, 3) by decide +kernel) (vs := [.inl (xs (j + 1)), .inl (xs (j + 2))]) (rest := []) rfl rfl (Nat.zero_le _) b3 b1 b2 b4 (fun r h2 hr => ?_)
  obtain ⟨⟨y, rfl, -, v, rfl⟩, hJ⟩ := hr
  refine lg_pop C (show decode code 503 = .ok (.pop, 1) by decide +kernel) ?_
  refine lg_go (t := 1822) C (show decode code 504 = .ok (.goto 1318, 3) by decide +kernel) (by decide) ?_
  exact kk _ _ _ hJ
theorem cs_7 (C : LC p s m meth c b L xs D tys) (hj : j + 6 ≤ L) (hp : aBoth (fun x => ∃ u : Int32, x = .inl u) (fun x y => (∃ u : Int32, x = .inl u) ∧ ∃ u : Int32, y = .inl u) 131 227 [.inl (xs (j + 1))] J h kc ks) (kk : ∀ h kc ks, J h kc ks → LG p l e s m below meth c b D tys 0 69 j 1822 [] h kc ks) : LG p l e s m below meth c b D tys 0 69 j 507 [] h kc ks := by
  obtain ⟨mc, ms, fs, a1, a2, a3, a4⟩ := hp
  refine lg_x C (show decode code 507 = .ok (.aload_n 1, 1) by decide +kernel) ?_
  refine lg_arg 1 C rfl (by omega) (show decode code 508 = .ok (.aload_n 0, 1) by decide +kernel) (show decode code 509 = .ok (.iload_n 3, 1) by decide +kernel) (show decode code 510 = .ok (.iconst 1, 1) by decide +kernel) (show decode code 511 = .ok (.iadd, 1) by decide +kernel) (show decode code 512 = .ok (.iaload, 1) by decide +kernel) ?_
  refine lg_call (M := mX11_text) (ci := 11) (N := 8) (T := TX11) (ok_all 60) (by decide) C mt_131 fc_X11_text fi_X11_text rfl lk_667 lk_668 lk_669 fd_X11_text (by decide) (show decode code 513 = .ok (.invokevirtual 44, 3) by decide +kernel) (vs := [.inl (xs (j + 1))]) (rest := []) rfl rfl (Nat.zero_le _) a3 a1 a2 a4 (fun r h1 hr => ?_)
  obtain ⟨x, mc2, ms2, gs, rfl, p1, b1, b2, b3, b4⟩ := hr
  obtain ⟨u, rfl⟩ := p1
  refine lg_pop C (show decode code 516 = .ok (.pop, 1) by decide +kernel) ?_
  refine lg_m C (show decode code 517 = .ok (.aload_n 2, 1) by decide +kernel) ?_
  refine lg_arg 1 C rfl (by omega) (show decode code 518 = .ok (.aload_n 0, 1) by decide +kernel) (show decode code 519 = .ok (.iload_n 3, 1) by decide +kernel) (show decode code 520 = .ok (.iconst 1, 1) by decide +kernel) (show decode code 521 = .ok (.iadd, 1) by decide +kernel) (show decode code 522 = .ok (.iaload, 1) by decide +kernel) ?_
  refine lg_call (M := mX12_text) (ci := 12) (N := 69) (T := TX12) (ok_all 60) (by decide) C mt_227 fc_X12_text fi_X12_text rfl lk_1765 lk_1766 lk_1767 fd_X12_text (by decide) (show decode code 523 = .ok (.invokevirtual 48, 3) by decide +kernel) (vs := [.inl (xs (j + 1))]) (rest := []) rfl rfl (Nat.zero_le _) b3 b1 b2 b4 (fun r h2 hr => ?_)
  obtain ⟨⟨y, rfl, -, v, rfl⟩, hJ⟩ := hr
  refine lg_pop C (show decode code 526 = .ok (.pop, 1) by decide +kernel) ?_
  refine lg_go (t := 1822) C (show decode code 527 = .ok (.goto 1295, 3) by decide +kernel) (by decide) ?_
  exact kk _ _ _ hJ
theorem cs_8 (C : LC p s m meth c b L xs D tys) (hj : j + 6 ≤ L) (hp : aBoth (fun x => ∃ u : Int32, x = .inl u) (fun x y => (∃ u : Int32, x = .inl u) ∧ ∃ u : Int32, y = .inl u) 132 231 [.inl (xs (j + 1)), .inl (xs (j + 2)), .inl (xs (j + 3))] J h kc ks) (kk : ∀ h kc ks, J h kc ks → LG p l e s m below meth c b D tys 0 69 j 1822 [] h kc ks) : LG p l e s m below meth c b D tys 0 69 j 530 [] h kc ks := by
  obtain ⟨mc, ms, fs, a1, a2, a3, a4⟩ := hp
  refine lg_x C (show decode code 530 = .ok (.aload_n 1, 1) by decide +kernel) ?_
  refine lg_arg 1 C rfl (by omega) (show decode code 531 = .ok (.aload_n 0, 1) by decide +kernel) (show decode code 532 = .ok (.iload_n 3, 1) by decide +kernel) (show decode code 533 = .ok (.iconst 1, 1) by decide +kernel) (show decode code 534 = .ok (.iadd, 1) by decide +kernel) (show decode code 535 = .ok (.iaload, 1) by decide +kernel) ?_
  refine lg_arg 2 C rfl (by omega) (show decode code 536 = .ok (.aload_n 0, 1) by decide +kernel) (show decode code 537 = .ok (.iload_n 3, 1) by decide +kernel) (show decode code 538 = .ok (.iconst 2, 1) by decide +kernel) (show decode code 539 = .ok (.iadd, 1) by decide +kernel) (show decode code 540 = .ok (.iaload, 1) by decide +kernel) ?_
  refine lg_arg 3 C rfl (by omega) (show decode code 541 = .ok (.aload_n 0, 1) by decide +kernel) (show decode code 542 = .ok (.iload_n 3, 1) by decide +kernel) (show decode code 543 = .ok (.iconst 3, 1) by decide +kernel) (show decode code 544 = .ok (.iadd, 1) by decide +kernel) (show decode code 545 = .ok (.iaload, 1) by decide +kernel) ?_
  refine lg_call (M := mX11_reign) (ci := 11) (N := 8) (T := TX11) (ok_all 60) (by decide) C mt_132 fc_X11_reign fi_X11_reign rfl lk_864 lk_865 lk_866 fd_X11_reign (by decide) (show decode code 546 = .ok (.invokevirtual 49, 3) by decide +kernel) (vs := [.inl (xs (j + 1)), .inl (xs (j + 2)), .inl (xs (j + 3))]) (rest := []) rfl rfl (Nat.zero_le _) a3 a1 a2 a4 (fun r h1 hr => ?_)
  obtain ⟨x, mc2, ms2, gs, rfl, p1, b1, b2, b3, b4⟩ := hr
  obtain ⟨u, rfl⟩ := p1
  refine lg_pop C (show decode code 549 = .ok (.pop, 1) by decide +kernel) ?_
  refine lg_m C (show decode code 550 = .ok (.aload_n 2, 1) by decide +kernel) ?_
  refine lg_arg 1 C rfl (by omega) (show decode code 551 = .ok (.aload_n 0, 1) by decide +kernel) (show decode code 552 = .ok (.iload_n 3, 1) by decide +kernel) (show decode code 553 = .ok (.iconst 1, 1) by decide +kernel) (show decode code 554 = .ok (.iadd, 1) by decide +kernel) (show decode code 555 = .ok (.iaload, 1) by decide +kernel) ?_
  refine lg_arg 2 C rfl (by omega) (show decode code 556 = .ok (.aload_n 0, 1) by decide +kernel) (show decode code 557 = .ok (.iload_n 3, 1) by decide +kernel) (show decode code 558 = .ok (.iconst 2, 1) by decide +kernel) (show decode code 559 = .ok (.iadd, 1) by decide +kernel) (show decode code 560 = .ok (.iaload, 1) by decide +kernel) ?_
  refine lg_arg 3 C rfl (by omega) (show decode code 561 = .ok (.aload_n 0, 1) by decide +kernel) (show decode code 562 = .ok (.iload_n 3, 1) by decide +kernel) (show decode code 563 = .ok (.iconst 3, 1) by decide +kernel) (show decode code 564 = .ok (.iadd, 1) by decide +kernel) (show decode code 565 = .ok (.iaload, 1) by decide +kernel) ?_
  refine lg_call (M := mX12_reign) (ci := 12) (N := 69) (T := TX12) (ok_all 60) (by decide) C mt_231 fc_X12_reign fi_X12_reign rfl lk_1823 lk_1824 lk_1825 fd_X12_reign (by decide) (show decode code 566 = .ok (.invokevirtual 52, 3) by decide +kernel) (vs := [.inl (xs (j + 1)), .inl (xs (j + 2)), .inl (xs (j + 3))]) (rest := []) rfl rfl (Nat.zero_le _) b3 b1 b2 b4 (fun r h2 hr => ?_)
  obtain ⟨⟨y, rfl, -, v, rfl⟩, hJ⟩ := hr
  refine lg_pop C (show decode code 569 = .ok (.pop, 1) by decide +kernel) ?_
  refine lg_go (t := 1822) C (show decode code 570 = .ok (.goto 1252, 3) by decide +kernel) (by decide) ?_
  exact kk _ _ _ hJ
theorem cs_9 (C : LC p s m meth c b L xs D tys) (hj : j + 6 ≤ L) (hp : aBoth (fun x => ∃ u : Int32, x = .inl u) (fun x y => (∃ u : Int32, x = .inl u) ∧ ∃ u : Int32, y = .inl u) 133 232 [.inl (xs (j + 1)), .inl (xs (j + 2)), .inl (xs (j + 3))] J h kc ks) (kk : ∀ h kc ks, J h kc ks → LG p l e s m below meth c b D tys 0 69 j 1822 [] h kc ks) : LG p l e s m below meth c b D tys 0 69 j 573 [] h kc ks := by
  obtain ⟨mc, ms, fs, a1, a2, a3, a4⟩ := hp
  refine lg_x C (show decode code 573 = .ok (.aload_n 1, 1) by decide +kernel) ?_
  refine lg_arg 1 C rfl (by omega) (show decode code 574 = .ok (.aload_n 0, 1) by decide +kernel) (show decode code 575 = .ok (.iload_n 3, 1) by decide +kernel) (show decode code 576 = .ok (.iconst 1, 1) by decide +kernel) (show decode code 577 = .ok (.iadd, 1) by decide +kernel) (show decode code 578 = .ok (.iaload, 1) by decide +kernel) ?_
  refine lg_arg 2 C rfl (by omega) (show decode code 579 = .ok (.aload_n 0, 1) by decide +kernel) (show decode code 580 = .ok (.iload_n 3, 1) by decide +kernel) (show decode code 581 = .ok (.iconst 2, 1) by decide +kernel) (show decode code 582 = .ok (.iadd, 1) by decide +kernel) (show decode code 583 = .ok (.iaload, 1) by decide +kernel) ?_
  refine lg_arg 3 C rfl (by omega) (show decode code 584 = .ok (.aload_n 0, 1) by decide +kernel) (show decode code 585 = .ok (.iload_n 3, 1) by decide +kernel) (show decode code 586 = .ok (.iconst 3, 1) by decide +kernel) (show decode code 587 = .ok (.iadd, 1) by decide +kernel) (show decode code 588 = .ok (.iaload, 1) by decide +kernel) ?_
  refine lg_call (M := mX11_watch) (ci := 11) (N := 8) (T := TX11) (ok_all 60) (by decide) C mt_133 fc_X11_watch fi_X11_watch rfl lk_872 lk_873 lk_874 fd_X11_watch (by decide) (show decode code 589 = .ok (.invokevirtual 53, 3) by decide +kernel) (vs := [.inl (xs (j + 1)), .inl (xs (j + 2)), .inl (xs (j + 3))]) (rest := []) rfl rfl (Nat.zero_le _) a3 a1 a2 a4 (fun r h1 hr => ?_)
  obtain ⟨x, mc2, ms2, gs, rfl, p1, b1, b2, b3, b4⟩ := hr
  obtain ⟨u, rfl⟩ := p1
  refine lg_pop C (show decode code 592 = .ok (.pop, 1) by decide +kernel) ?_
  refine lg_m C (show decode code 593 = .ok (.aload_n 2, 1) by decide +kernel) ?_
  refine lg_arg 1 C rfl (by omega) (show decode code 594 = .ok (.aload_n 0, 1) by decide +kernel) (show decode code 595 = .ok (.iload_n 3, 1) by decide +kernel) (show decode code 596 = .ok (.iconst 1, 1) by decide +kernel) (show decode code 597 = .ok (.iadd, 1) by decide +kernel) (show decode code 598 = .ok (.iaload, 1) by decide +kernel) ?_
  refine lg_arg 2 C rfl (by omega) (show decode code 599 = .ok (.aload_n 0, 1) by decide +kernel) (show decode code 600 = .ok (.iload_n 3, 1) by decide +kernel) (show decode code 601 = .ok (.iconst 2, 1) by decide +kernel) (show decode code 602 = .ok (.iadd, 1) by decide +kernel) (show decode code 603 = .ok (.iaload, 1) by decide +kernel) ?_
  refine lg_arg 3 C rfl (by omega) (show decode code 604 = .ok (.aload_n 0, 1) by decide +kernel) (show decode code 605 = .ok (.iload_n 3, 1) by decide +kernel) (show decode code 606 = .ok (.iconst 3, 1) by decide +kernel) (show decode code 607 = .ok (.iadd, 1) by decide +kernel) (show decode code 608 = .ok (.iaload, 1) by decide +kernel) ?_
  refine lg_call (M := mX12_watch) (ci := 12) (N := 69) (T := TX12) (ok_all 60) (by decide) C mt_232 fc_X12_watch fi_X12_watch rfl lk_1827 lk_1828 lk_1829 fd_X12_watch (by decide) (show decode code 609 = .ok (.invokevirtual 56, 3) by decide +kernel) (vs := [.inl (xs (j + 1)), .inl (xs (j + 2)), .inl (xs (j + 3))]) (rest := []) rfl rfl (Nat.zero_le _) b3 b1 b2 b4 (fun r h2 hr => ?_)
  obtain ⟨⟨y, rfl, -, v, rfl⟩, hJ⟩ := hr
  refine lg_pop C (show decode code 612 = .ok (.pop, 1) by decide +kernel) ?_
  refine lg_go (t := 1822) C (show decode code 613 = .ok (.goto 1209, 3) by decide +kernel) (by decide) ?_
  exact kk _ _ _ hJ
theorem cs_10 (C : LC p s m meth c b L xs D tys) (hj : j + 6 ≤ L) (hp : aBoth (fun x => ∃ u : Int32, x = .inl u) (fun x y => (∃ u : Int32, x = .inl u) ∧ ∃ u : Int32, y = .inl u) 134 239 [.inl (xs (j + 1)), .inl (xs (j + 2)), .inl (xs (j + 3))] J h kc ks) (kk : ∀ h kc ks, J h kc ks → LG p l e s m below meth c b D tys 0 69 j 1822 [] h kc ks) : LG p l e s m below meth c b D tys 0 69 j 616 [] h kc ks := by
  obtain ⟨mc, ms, fs, a1, a2, a3, a4⟩ := hp
  refine lg_x C (show decode code 616 = .ok (.aload_n 1, 1) by decide +kernel) ?_
  refine lg_arg 1 C rfl (by omega) (show decode code 617 = .ok (.aload_n 0, 1) by decide +kernel) (show decode code 618 = .ok (.iload_n 3, 1) by decide +kernel) (show decode code 619 = .ok (.iconst 1, 1) by decide +kernel) (show decode code 620 = .ok (.iadd, 1) by decide +kernel) (show decode code 621 = .ok (.iaload, 1) by decide +kernel) ?_
  refine lg_arg 2 C rfl (by omega) (show decode code 622 = .ok (.aload_n 0, 1) by decide +kernel) (show decode code 623 = .ok (.iload_n 3, 1) by decide +kernel) (show decode code 624 = .ok (.iconst 2, 1) by decide +kernel) (show decode code 625 = .ok (.iadd, 1) by decide +kernel) (show decode code 626 = .ok (.iaload, 1) by decide +kernel) ?_
  refine lg_arg 3 C rfl (by omega) (show decode code 627 = .ok (.aload_n 0, 1) by decide +kernel) (show decode code 628 = .ok (.iload_n 3, 1) by decide +kernel) (show decode code 629 = .ok (.iconst 3, 1) by decide +kernel) (show decode code 630 = .ok (.iadd, 1) by decide +kernel) (show decode code 631 = .ok (.iaload, 1) by decide +kernel) ?_
  refine lg_call (M := mX11_word) (ci := 11) (N := 8) (T := TX11) (ok_all 60) (by decide) C mt_134 fc_X11_word fi_X11_word rfl lk_880 lk_881 lk_882 fd_X11_word (by decide) (show decode code 632 = .ok (.invokevirtual 57, 3) by decide +kernel) (vs := [.inl (xs (j + 1)), .inl (xs (j + 2)), .inl (xs (j + 3))]) (rest := []) rfl rfl (Nat.zero_le _) a3 a1 a2 a4 (fun r h1 hr => ?_)
  obtain ⟨x, mc2, ms2, gs, rfl, p1, b1, b2, b3, b4⟩ := hr
  obtain ⟨u, rfl⟩ := p1
  refine lg_pop C (show decode code 635 = .ok (.pop, 1) by decide +kernel) ?_
  refine lg_m C (show decode code 636 = .ok (.aload_n 2, 1) by decide +kernel) ?_
  refine lg_arg 1 C rfl (by omega) (show decode code 637 = .ok (.aload_n 0, 1) by decide +kernel) (show decode code 638 = .ok (.iload_n 3, 1) by decide +kernel) (show decode code 639 = .ok (.iconst 1, 1) by decide +kernel) (show decode code 640 = .ok (.iadd, 1) by decide +kernel) (show decode code 641 = .ok (.iaload, 1) by decide +kernel) ?_
  refine lg_arg 2 C rfl (by omega) (show decode code 642 = .ok (.aload_n 0, 1) by decide +kernel) (show decode code 643 = .ok (.iload_n 3, 1) by decide +kernel) (show decode code 644 = .ok (.iconst 2, 1) by decide +kernel) (show decode code 645 = .ok (.iadd, 1) by decide +kernel) (show decode code 646 = .ok (.iaload, 1) by decide +kernel) ?_
  refine lg_arg 3 C rfl (by omega) (show decode code 647 = .ok (.aload_n 0, 1) by decide +kernel) (show decode code 648 = .ok (.iload_n 3, 1) by decide +kernel) (show decode code 649 = .ok (.iconst 3, 1) by decide +kernel) (show decode code 650 = .ok (.iadd, 1) by decide +kernel) (show decode code 651 = .ok (.iaload, 1) by decide +kernel) ?_
  refine lg_call (M := mX12_word) (ci := 12) (N := 69) (T := TX12) (ok_all 60) (by decide) C mt_239 fc_X12_word fi_X12_word rfl lk_1835 lk_1836 lk_1837 fd_X12_word (by decide) (show decode code 652 = .ok (.invokevirtual 60, 3) by decide +kernel) (vs := [.inl (xs (j + 1)), .inl (xs (j + 2)), .inl (xs (j + 3))]) (rest := []) rfl rfl (Nat.zero_le _) b3 b1 b2 b4 (fun r h2 hr => ?_)
  obtain ⟨⟨y, rfl, -, v, rfl⟩, hJ⟩ := hr
  refine lg_pop C (show decode code 655 = .ok (.pop, 1) by decide +kernel) ?_
  refine lg_go (t := 1822) C (show decode code 656 = .ok (.goto 1166, 3) by decide +kernel) (by decide) ?_
  exact kk _ _ _ hJ
theorem cs_11 (C : LC p s m meth c b L xs D tys) (hj : j + 6 ≤ L) (hp : aBoth (fun x => ∃ u : Int32, x = .inl u) (fun x y => (∃ u : Int32, x = .inl u) ∧ ∃ u : Int32, y = .inl u) 135 237 [.inl (xs (j + 1)), .inl (xs (j + 2)), .inl (xs (j + 3))] J h kc ks) (kk : ∀ h kc ks, J h kc ks → LG p l e s m below meth c b D tys 0 69 j 1822 [] h kc ks) : LG p l e s m below meth c b D tys 0 69 j 659 [] h kc ks := by
  obtain ⟨mc, ms, fs, a1, a2, a3, a4⟩ := hp
  refine lg_x C (show decode code 659 = .ok (.aload_n 1, 1) by decide +kernel) ?_
  refine lg_arg 1 C rfl (by omega) (show decode code 660 = .ok (.aload_n 0, 1) by decide +kernel) (show decode code 661 = .ok (.iload_n 3, 1) by decide +kernel) (show decode code 662 = .ok (.iconst 1, 1) by decide +kernel) (show decode code 663 = .ok (.iadd, 1) by decide +kernel) (show decode code 664 = .ok (.iaload, 1) by decide +kernel) ?_
  refine lg_arg 2 C rfl (by omega) (show decode code 665 = .ok (.aload_n 0, 1) by decide +kernel) (show decode code 666 = .ok (.iload_n 3, 1) by decide +kernel) (show decode code 667 = .ok (.iconst 2, 1) by decide +kernel) (show decode code 668 = .ok (.iadd, 1) by decide +kernel) (show decode code 669 = .ok (.iaload, 1) by decide +kernel) ?_
  refine lg_arg 3 C rfl (by omega) (show decode code 670 = .ok (.aload_n 0, 1) by decide +kernel) (show decode code 671 = .ok (.iload_n 3, 1) by decide +kernel) (show decode code 672 = .ok (.iconst 3, 1) by decide +kernel) (show decode code 673 = .ok (.iadd, 1) by decide +kernel) (show decode code 674 = .ok (.iaload, 1) by decide +kernel) ?_
  refine lg_call (M := mX11_date) (ci := 11) (N := 8) (T := TX11) (ok_all 60) (by decide) C mt_135 fc_X11_date fi_X11_date rfl lk_981 lk_982 lk_983 fd_X11_date (by decide) (show decode code 675 = .ok (.invokevirtual 61, 3) by decide +kernel) (vs := [.inl (xs (j + 1)), .inl (xs (j + 2)), .inl (xs (j + 3))]) (rest := []) rfl rfl (Nat.zero_le _) a3 a1 a2 a4 (fun r h1 hr => ?_)
  obtain ⟨x, mc2, ms2, gs, rfl, p1, b1, b2, b3, b4⟩ := hr
  obtain ⟨u, rfl⟩ := p1
  refine lg_pop C (show decode code 678 = .ok (.pop, 1) by decide +kernel) ?_
  refine lg_m C (show decode code 679 = .ok (.aload_n 2, 1) by decide +kernel) ?_
  refine lg_arg 1 C rfl (by omega) (show decode code 680 = .ok (.aload_n 0, 1) by decide +kernel) (show decode code 681 = .ok (.iload_n 3, 1) by decide +kernel) (show decode code 682 = .ok (.iconst 1, 1) by decide +kernel) (show decode code 683 = .ok (.iadd, 1) by decide +kernel) (show decode code 684 = .ok (.iaload, 1) by decide +kernel) ?_
  refine lg_arg 2 C rfl (by omega) (show decode code 685 = .ok (.aload_n 0, 1) by decide +kernel) (show decode code 686 = .ok (.iload_n 3, 1) by decide +kernel) (show decode code 687 = .ok (.iconst 2, 1) by decide +kernel) (show decode code 688 = .ok (.iadd, 1) by decide +kernel) (show decode code 689 = .ok (.iaload, 1) by decide +kernel) ?_
  refine lg_arg 3 C rfl (by omega) (show decode code 690 = .ok (.aload_n 0, 1) by decide +kernel) (show decode code 691 = .ok (.iload_n 3, 1) by decide +kernel) (show decode code 692 = .ok (.iconst 3, 1) by decide +kernel) (show decode code 693 = .ok (.iadd, 1) by decide +kernel) (show decode code 694 = .ok (.iaload, 1) by decide +kernel) ?_
  refine lg_call (M := mX12_date) (ci := 12) (N := 69) (T := TX12) (ok_all 60) (by decide) C mt_237 fc_X12_date fi_X12_date rfl lk_1831 lk_1832 lk_1833 fd_X12_date (by decide) (show decode code 695 = .ok (.invokevirtual 64, 3) by decide +kernel) (vs := [.inl (xs (j + 1)), .inl (xs (j + 2)), .inl (xs (j + 3))]) (rest := []) rfl rfl (Nat.zero_le _) b3 b1 b2 b4 (fun r h2 hr => ?_)
  obtain ⟨⟨y, rfl, -, v, rfl⟩, hJ⟩ := hr
  refine lg_pop C (show decode code 698 = .ok (.pop, 1) by decide +kernel) ?_
  refine lg_go (t := 1822) C (show decode code 699 = .ok (.goto 1123, 3) by decide +kernel) (by decide) ?_
  exact kk _ _ _ hJ
theorem cs_12 (C : LC p s m meth c b L xs D tys) (hj : j + 6 ≤ L) (hp : aBoth (fun x => ∃ u : Int32, x = .inl u) (fun x y => (∃ u : Int32, x = .inl u) ∧ ∃ u : Int32, y = .inl u) 136 240 [.inl (xs (j + 1)), .inl (xs (j + 2)), .inl (xs (j + 3)), .inl (xs (j + 4))] J h kc ks) (kk : ∀ h kc ks, J h kc ks → LG p l e s m below meth c b D tys 0 69 j 1822 [] h kc ks) : LG p l e s m below meth c b D tys 0 69 j 702 [] h kc ks := by
  obtain ⟨mc, ms, fs, a1, a2, a3, a4⟩ := hp
  refine lg_x C (show decode code 702 = .ok (.aload_n 1, 1) by decide +kernel) ?_
  refine lg_arg 1 C rfl (by omega) (show decode code 703 = .ok (.aload_n 0, 1) by decide +kernel) (show decode code 704 = .ok (.iload_n 3, 1) by decide +kernel) (show decode code 705 = .ok (.iconst 1, 1) by decide +kernel) (show decode code 706 = .ok (.iadd, 1) by decide +kernel) (show decode code 707 = .ok (.iaload, 1) by decide +kernel) ?_
  refine lg_arg 2 C rfl (by omega) (show decode code 708 = .ok (.aload_n 0, 1) by decide +kernel) (show decode code 709 = .ok (.iload_n 3, 1) by decide +kernel) (show decode code 710 = .ok (.iconst 2, 1) by decide +kernel) (show decode code 711 = .ok (.iadd, 1) by decide +kernel) (show decode code 712 = .ok (.iaload, 1) by decide +kernel) ?_
  refine lg_arg 3 C rfl (by omega) (show decode code 713 = .ok (.aload_n 0, 1) by decide +kernel) (show decode code 714 = .ok (.iload_n 3, 1) by decide +kernel) (show decode code 715 = .ok (.iconst 3, 1) by decide +kernel) (show decode code 716 = .ok (.iadd, 1) by decide +kernel) (show decode code 717 = .ok (.iaload, 1) by decide +kernel) ?_
  refine lg_arg 4 C rfl (by omega) (show decode code 718 = .ok (.aload_n 0, 1) by decide +kernel) (show decode code 719 = .ok (.iload_n 3, 1) by decide +kernel) (show decode code 720 = .ok (.iconst 4, 1) by decide +kernel) (show decode code 721 = .ok (.iadd, 1) by decide +kernel) (show decode code 722 = .ok (.iaload, 1) by decide +kernel) ?_
  refine lg_call (M := mX11_words) (ci := 11) (N := 8) (T := TX11) (ok_all 60) (by decide) C mt_136 fc_X11_words fi_X11_words rfl lk_988 lk_989 lk_990 fd_X11_words (by decide) (show decode code 723 = .ok (.invokevirtual 65, 3) by decide +kernel) (vs := [.inl (xs (j + 1)), .inl (xs (j + 2)), .inl (xs (j + 3)), .inl (xs (j + 4))]) (rest := []) rfl rfl (Nat.zero_le _) a3 a1 a2 a4 (fun r h1 hr => ?_)
  obtain ⟨x, mc2, ms2, gs, rfl, p1, b1, b2, b3, b4⟩ := hr
  obtain ⟨u, rfl⟩ := p1
  refine lg_pop C (show decode code 726 = .ok (.pop, 1) by decide +kernel) ?_
  refine lg_m C (show decode code 727 = .ok (.aload_n 2, 1) by decide +kernel) ?_
  refine lg_arg 1 C rfl (by omega) (show decode code 728 = .ok (.aload_n 0, 1) by decide +kernel) (show decode code 729 = .ok (.iload_n 3, 1) by decide +kernel) (show decode code 730 = .ok (.iconst 1, 1) by decide +kernel) (show decode code 731 = .ok (.iadd, 1) by decide +kernel) (show decode code 732 = .ok (.iaload, 1) by decide +kernel) ?_
  refine lg_arg 2 C rfl (by omega) (show decode code 733 = .ok (.aload_n 0, 1) by decide +kernel) (show decode code 734 = .ok (.iload_n 3, 1) by decide +kernel) (show decode code 735 = .ok (.iconst 2, 1) by decide +kernel) (show decode code 736 = .ok (.iadd, 1) by decide +kernel) (show decode code 737 = .ok (.iaload, 1) by decide +kernel) ?_
  refine lg_arg 3 C rfl (by omega) (show decode code 738 = .ok (.aload_n 0, 1) by decide +kernel) (show decode code 739 = .ok (.iload_n 3, 1) by decide +kernel) (show decode code 740 = .ok (.iconst 3, 1) by decide +kernel) (show decode code 741 = .ok (.iadd, 1) by decide +kernel) (show decode code 742 = .ok (.iaload, 1) by decide +kernel) ?_
  refine lg_arg 4 C rfl (by omega) (show decode code 743 = .ok (.aload_n 0, 1) by decide +kernel) (show decode code 744 = .ok (.iload_n 3, 1) by decide +kernel) (show decode code 745 = .ok (.iconst 4, 1) by decide +kernel) (show decode code 746 = .ok (.iadd, 1) by decide +kernel) (show decode code 747 = .ok (.iaload, 1) by decide +kernel) ?_
  refine lg_call (M := mX12_words) (ci := 12) (N := 69) (T := TX12) (ok_all 60) (by decide) C mt_240 fc_X12_words fi_X12_words rfl lk_1853 lk_1854 lk_1855 fd_X12_words (by decide) (show decode code 748 = .ok (.invokevirtual 68, 3) by decide +kernel) (vs := [.inl (xs (j + 1)), .inl (xs (j + 2)), .inl (xs (j + 3)), .inl (xs (j + 4))]) (rest := []) rfl rfl (Nat.zero_le _) b3 b1 b2 b4 (fun r h2 hr => ?_)
  obtain ⟨⟨y, rfl, -, v, rfl⟩, hJ⟩ := hr
  refine lg_pop C (show decode code 751 = .ok (.pop, 1) by decide +kernel) ?_
  refine lg_go (t := 1822) C (show decode code 752 = .ok (.goto 1070, 3) by decide +kernel) (by decide) ?_
  exact kk _ _ _ hJ
theorem cs_13 (C : LC p s m meth c b L xs D tys) (hj : j + 6 ≤ L) (hp : aBoth (fun x => ∃ u : Int32, x = .inl u) (fun x y => (∃ u : Int32, x = .inl u) ∧ ∃ u : Int32, y = .inl u) 137 243 [.inl (xs (j + 1)), .inl (xs (j + 2))] J h kc ks) (kk : ∀ h kc ks, J h kc ks → LG p l e s m below meth c b D tys 0 69 j 1822 [] h kc ks) : LG p l e s m below meth c b D tys 0 69 j 755 [] h kc ks := by
  obtain ⟨mc, ms, fs, a1, a2, a3, a4⟩ := hp
  refine lg_x C (show decode code 755 = .ok (.aload_n 1, 1) by decide +kernel) ?_
  refine lg_arg 1 C rfl (by omega) (show decode code 756 = .ok (.aload_n 0, 1) by decide +kernel) (show decode code 757 = .ok (.iload_n 3, 1) by decide +kernel) (show decode code 758 = .ok (.iconst 1, 1) by decide +kernel) (show decode code 759 = .ok (.iadd, 1) by decide +kernel) (show decode code 760 = .ok (.iaload, 1) by decide +kernel) ?_
  refine lg_arg 2 C rfl (by omega) (show decode code 761 = .ok (.aload_n 0, 1) by decide +kernel) (show decode code 762 = .ok (.iload_n 3, 1) by decide +kernel) (show decode code 763 = .ok (.iconst 2, 1) by decide +kernel) (show decode code 764 = .ok (.iadd, 1) by decide +kernel) (show decode code 765 = .ok (.iaload, 1) by decide +kernel) ?_
  refine lg_call (M := mX11_ofWord) (ci := 11) (N := 8) (T := TX11) (ok_all 60) (by decide) C mt_137 fc_X11_ofWord fi_X11_ofWord rfl lk_1031 lk_1032 lk_1033 fd_X11_ofWord (by decide) (show decode code 766 = .ok (.invokevirtual 69, 3) by decide +kernel) (vs := [.inl (xs (j + 1)), .inl (xs (j + 2))]) (rest := []) rfl rfl (Nat.zero_le _) a3 a1 a2 a4 (fun r h1 hr => ?_)
  obtain ⟨x, mc2, ms2, gs, rfl, p1, b1, b2, b3, b4⟩ := hr
  obtain ⟨u, rfl⟩ := p1
  refine lg_pop C (show decode code 769 = .ok (.pop, 1) by decide +kernel) ?_
  refine lg_m C (show decode code 770 = .ok (.aload_n 2, 1) by decide +kernel) ?_
  refine lg_arg 1 C rfl (by omega) (show decode code 771 = .ok (.aload_n 0, 1) by decide +kernel) (show decode code 772 = .ok (.iload_n 3, 1) by decide +kernel) (show decode code 773 = .ok (.iconst 1, 1) by decide +kernel) (show decode code 774 = .ok (.iadd, 1) by decide +kernel) (show decode code 775 = .ok (.iaload, 1) by decide +kernel) ?_
  refine lg_arg 2 C rfl (by omega) (show decode code 776 = .ok (.aload_n 0, 1) by decide +kernel) (show decode code 777 = .ok (.iload_n 3, 1) by decide +kernel) (show decode code 778 = .ok (.iconst 2, 1) by decide +kernel) (show decode code 779 = .ok (.iadd, 1) by decide +kernel) (show decode code 780 = .ok (.iaload, 1) by decide +kernel) ?_
  refine lg_call (M := mX12_ofWord) (ci := 12) (N := 69) (T := TX12) (ok_all 60) (by decide) C mt_243 fc_X12_ofWord fi_X12_ofWord rfl lk_1861 lk_1862 lk_1863 fd_X12_ofWord (by decide) (show decode code 781 = .ok (.invokevirtual 72, 3) by decide +kernel) (vs := [.inl (xs (j + 1)), .inl (xs (j + 2))]) (rest := []) rfl rfl (Nat.zero_le _) b3 b1 b2 b4 (fun r h2 hr => ?_)
  obtain ⟨⟨y, rfl, -, v, rfl⟩, hJ⟩ := hr
  refine lg_pop C (show decode code 784 = .ok (.pop, 1) by decide +kernel) ?_
  refine lg_go (t := 1822) C (show decode code 785 = .ok (.goto 1037, 3) by decide +kernel) (by decide) ?_
  exact kk _ _ _ hJ
theorem cs_14 (C : LC p s m meth c b L xs D tys) (hj : j + 6 ≤ L) (hp : aBoth (fun x => ∃ u : Int32, x = .inl u) (fun x y => (∃ u : Int32, x = .inl u) ∧ ∃ u : Int32, y = .inl u) 138 245 [.inl (xs (j + 1)), .inl (xs (j + 2)), .inl (xs (j + 3))] J h kc ks) (kk : ∀ h kc ks, J h kc ks → LG p l e s m below meth c b D tys 0 69 j 1822 [] h kc ks) : LG p l e s m below meth c b D tys 0 69 j 788 [] h kc ks := by
  obtain ⟨mc, ms, fs, a1, a2, a3, a4⟩ := hp
  refine lg_x C (show decode code 788 = .ok (.aload_n 1, 1) by decide +kernel) ?_
  refine lg_arg 1 C rfl (by omega) (show decode code 789 = .ok (.aload_n 0, 1) by decide +kernel) (show decode code 790 = .ok (.iload_n 3, 1) by decide +kernel) (show decode code 791 = .ok (.iconst 1, 1) by decide +kernel) (show decode code 792 = .ok (.iadd, 1) by decide +kernel) (show decode code 793 = .ok (.iaload, 1) by decide +kernel) ?_
  refine lg_arg 2 C rfl (by omega) (show decode code 794 = .ok (.aload_n 0, 1) by decide +kernel) (show decode code 795 = .ok (.iload_n 3, 1) by decide +kernel) (show decode code 796 = .ok (.iconst 2, 1) by decide +kernel) (show decode code 797 = .ok (.iadd, 1) by decide +kernel) (show decode code 798 = .ok (.iaload, 1) by decide +kernel) ?_
  refine lg_arg 3 C rfl (by omega) (show decode code 799 = .ok (.aload_n 0, 1) by decide +kernel) (show decode code 800 = .ok (.iload_n 3, 1) by decide +kernel) (show decode code 801 = .ok (.iconst 3, 1) by decide +kernel) (show decode code 802 = .ok (.iadd, 1) by decide +kernel) (show decode code 803 = .ok (.iaload, 1) by decide +kernel) ?_
  refine lg_call (M := mX11_span) (ci := 11) (N := 8) (T := TX11) (ok_all 60) (by decide) C mt_138 fc_X11_span fi_X11_span rfl lk_1037 lk_1038 lk_1039 fd_X11_span (by decide) (show decode code 804 = .ok (.invokevirtual 73, 3) by decide +kernel) (vs := [.inl (xs (j + 1)), .inl (xs (j + 2)), .inl (xs (j + 3))]) (rest := []) rfl rfl (Nat.zero_le _) a3 a1 a2 a4 (fun r h1 hr => ?_)
  obtain ⟨x, mc2, ms2, gs, rfl, p1, b1, b2, b3, b4⟩ := hr
  obtain ⟨u, rfl⟩ := p1
  refine lg_pop C (show decode code 807 = .ok (.pop, 1) by decide +kernel) ?_
  refine lg_m C (show decode code 808 = .ok (.aload_n 2, 1) by decide +kernel) ?_
  refine lg_arg 1 C rfl (by omega) (show decode code 809 = .ok (.aload_n 0, 1) by decide +kernel) (show decode code 810 = .ok (.iload_n 3, 1) by decide +kernel) (show decode code 811 = .ok (.iconst 1, 1) by decide +kernel) (show decode code 812 = .ok (.iadd, 1) by decide +kernel) (show decode code 813 = .ok (.iaload, 1) by decide +kernel) ?_
  refine lg_arg 2 C rfl (by omega) (show decode code 814 = .ok (.aload_n 0, 1) by decide +kernel) (show decode code 815 = .ok (.iload_n 3, 1) by decide +kernel) (show decode code 816 = .ok (.iconst 2, 1) by decide +kernel) (show decode code 817 = .ok (.iadd, 1) by decide +kernel) (show decode code 818 = .ok (.iaload, 1) by decide +kernel) ?_
  refine lg_arg 3 C rfl (by omega) (show decode code 819 = .ok (.aload_n 0, 1) by decide +kernel) (show decode code 820 = .ok (.iload_n 3, 1) by decide +kernel) (show decode code 821 = .ok (.iconst 3, 1) by decide +kernel) (show decode code 822 = .ok (.iadd, 1) by decide +kernel) (show decode code 823 = .ok (.iaload, 1) by decide +kernel) ?_
  refine lg_call (M := mX12_span) (ci := 12) (N := 69) (T := TX12) (ok_all 60) (by decide) C mt_245 fc_X12_span fi_X12_span rfl lk_1873 lk_1874 lk_1875 fd_X12_span (by decide) (show decode code 824 = .ok (.invokevirtual 76, 3) by decide +kernel) (vs := [.inl (xs (j + 1)), .inl (xs (j + 2)), .inl (xs (j + 3))]) (rest := []) rfl rfl (Nat.zero_le _) b3 b1 b2 b4 (fun r h2 hr => ?_)
  obtain ⟨⟨y, rfl, -, v, rfl⟩, hJ⟩ := hr
  refine lg_pop C (show decode code 827 = .ok (.pop, 1) by decide +kernel) ?_
  refine lg_go (t := 1822) C (show decode code 828 = .ok (.goto 994, 3) by decide +kernel) (by decide) ?_
  exact kk _ _ _ hJ
theorem cs_15 (C : LC p s m meth c b L xs D tys) (hj : j + 6 ≤ L) (hp : aBoth (fun x => ∃ u : Int32, x = .inl u) (fun x y => (∃ u : Int32, x = .inl u) ∧ ∃ u : Int32, y = .inl u) 139 252 [.inl (xs (j + 1)), .inl (xs (j + 2)), .inl (xs (j + 3))] J h kc ks) (kk : ∀ h kc ks, J h kc ks → LG p l e s m below meth c b D tys 0 69 j 1822 [] h kc ks) : LG p l e s m below meth c b D tys 0 69 j 831 [] h kc ks := by
  obtain ⟨mc, ms, fs, a1, a2, a3, a4⟩ := hp
  refine lg_x C (show decode code 831 = .ok (.aload_n 1, 1) by decide +kernel) ?_
  refine lg_arg 1 C rfl (by omega) (show decode code 832 = .ok (.aload_n 0, 1) by decide +kernel) (show decode code 833 = .ok (.iload_n 3, 1) by decide +kernel) (show decode code 834 = .ok (.iconst 1, 1) by decide +kernel) (show decode code 835 = .ok (.iadd, 1) by decide +kernel) (show decode code 836 = .ok (.iaload, 1) by decide +kernel) ?_
  refine lg_arg 2 C rfl (by omega) (show decode code 837 = .ok (.aload_n 0, 1) by decide +kernel) (show decode code 838 = .ok (.iload_n 3, 1) by decide +kernel) (show decode code 839 = .ok (.iconst 2, 1) by decide +kernel) (show decode code 840 = .ok (.iadd, 1) by decide +kernel) (show decode code 841 = .ok (.iaload, 1) by decide +kernel) ?_
  refine lg_arg 3 C rfl (by omega) (show decode code 842 = .ok (.aload_n 0, 1) by decide +kernel) (show decode code 843 = .ok (.iload_n 3, 1) by decide +kernel) (show decode code 844 = .ok (.iconst 3, 1) by decide +kernel) (show decode code 845 = .ok (.iadd, 1) by decide +kernel) (show decode code 846 = .ok (.iaload, 1) by decide +kernel) ?_
  refine lg_call (M := mX11_fits) (ci := 11) (N := 8) (T := TX11) (ok_all 60) (by decide) C mt_139 fc_X11_fits fi_X11_fits rfl lk_1060 lk_1061 lk_1062 fd_X11_fits (by decide) (show decode code 847 = .ok (.invokevirtual 77, 3) by decide +kernel) (vs := [.inl (xs (j + 1)), .inl (xs (j + 2)), .inl (xs (j + 3))]) (rest := []) rfl rfl (Nat.zero_le _) a3 a1 a2 a4 (fun r h1 hr => ?_)
  obtain ⟨x, mc2, ms2, gs, rfl, p1, b1, b2, b3, b4⟩ := hr
  obtain ⟨u, rfl⟩ := p1
  refine lg_pop C (show decode code 850 = .ok (.pop, 1) by decide +kernel) ?_
  refine lg_m C (show decode code 851 = .ok (.aload_n 2, 1) by decide +kernel) ?_
  refine lg_arg 1 C rfl (by omega) (show decode code 852 = .ok (.aload_n 0, 1) by decide +kernel) (show decode code 853 = .ok (.iload_n 3, 1) by decide +kernel) (show decode code 854 = .ok (.iconst 1, 1) by decide +kernel) (show decode code 855 = .ok (.iadd, 1) by decide +kernel) (show decode code 856 = .ok (.iaload, 1) by decide +kernel) ?_
  refine lg_arg 2 C rfl (by omega) (show decode code 857 = .ok (.aload_n 0, 1) by decide +kernel) (show decode code 858 = .ok (.iload_n 3, 1) by decide +kernel) (show decode code 859 = .ok (.iconst 2, 1) by decide +kernel) (show decode code 860 = .ok (.iadd, 1) by decide +kernel) (show decode code 861 = .ok (.iaload, 1) by decide +kernel) ?_
  refine lg_arg 3 C rfl (by omega) (show decode code 862 = .ok (.aload_n 0, 1) by decide +kernel) (show decode code 863 = .ok (.iload_n 3, 1) by decide +kernel) (show decode code 864 = .ok (.iconst 3, 1) by decide +kernel) (show decode code 865 = .ok (.iadd, 1) by decide +kernel) (show decode code 866 = .ok (.iaload, 1) by decide +kernel) ?_
  refine lg_call (M := mX12_fits) (ci := 12) (N := 69) (T := TX12) (ok_all 60) (by decide) C mt_252 fc_X12_fits fi_X12_fits rfl lk_1883 lk_1884 lk_1885 fd_X12_fits (by decide) (show decode code 867 = .ok (.invokevirtual 80, 3) by decide +kernel) (vs := [.inl (xs (j + 1)), .inl (xs (j + 2)), .inl (xs (j + 3))]) (rest := []) rfl rfl (Nat.zero_le _) b3 b1 b2 b4 (fun r h2 hr => ?_)
  obtain ⟨⟨y, rfl, -, v, rfl⟩, hJ⟩ := hr
  refine lg_pop C (show decode code 870 = .ok (.pop, 1) by decide +kernel) ?_
  refine lg_go (t := 1822) C (show decode code 871 = .ok (.goto 951, 3) by decide +kernel) (by decide) ?_
  exact kk _ _ _ hJ
theorem cs_16 (C : LC p s m meth c b L xs D tys) (hj : j + 6 ≤ L) (hp : aBoth (fun x => ∃ u : Int32, x = .inl u) (fun x y => (∃ u : Int32, x = .inl u) ∧ ∃ u : Int32, y = .inl u) 140 253 [.inl (xs (j + 1)), .inl (xs (j + 2)), .inl (xs (j + 3))] J h kc ks) (kk : ∀ h kc ks, J h kc ks → LG p l e s m below meth c b D tys 0 69 j 1822 [] h kc ks) : LG p l e s m below meth c b D tys 0 69 j 874 [] h kc ks := by
  obtain ⟨mc, ms, fs, a1, a2, a3, a4⟩ := hp
  refine lg_x C (show decode code 874 = .ok (.aload_n 1, 1) by decide +kernel) ?_
  refine lg_arg 1 C rfl (by omega) (show decode code 875 = .ok (.aload_n 0, 1) by decide +kernel) (show decode code 876 = .ok (.iload_n 3, 1) by decide +kernel) (show decode code 877 = .ok (.iconst 1, 1) by decide +kernel) (show decode code 878 = .ok (.iadd, 1) by decide +kernel) (show decode code 879 = .ok (.iaload, 1) by decide +kernel) ?_
  refine lg_arg 2 C rfl (by omega) (show decode code 880 = .ok (.aload_n 0, 1) by decide +kernel) (show decode code 881 = .ok (.iload_n 3, 1) by decide +kernel) (show decode code 882 = .ok (.iconst 2, 1) by decide +kernel) (show decode code 883 = .ok (.iadd, 1) by decide +kernel) (show decode code 884 = .ok (.iaload, 1) by decide +kernel) ?_
  refine lg_arg 3 C rfl (by omega) (show decode code 885 = .ok (.aload_n 0, 1) by decide +kernel) (show decode code 886 = .ok (.iload_n 3, 1) by decide +kernel) (show decode code 887 = .ok (.iconst 3, 1) by decide +kernel) (show decode code 888 = .ok (.iadd, 1) by decide +kernel) (show decode code 889 = .ok (.iaload, 1) by decide +kernel) ?_
  refine lg_call (M := mX11_perhaps) (ci := 11) (N := 8) (T := TX11) (ok_all 60) (by decide) C mt_140 fc_X11_perhaps fi_X11_perhaps rfl lk_1086 lk_1087 lk_1088 fd_X11_perhaps (by decide) (show decode code 890 = .ok (.invokevirtual 81, 3) by decide +kernel) (vs := [.inl (xs (j + 1)), .inl (xs (j + 2)), .inl (xs (j + 3))]) (rest := []) rfl rfl (Nat.zero_le _) a3 a1 a2 a4 (fun r h1 hr => ?_)
  obtain ⟨x, mc2, ms2, gs, rfl, p1, b1, b2, b3, b4⟩ := hr
  obtain ⟨u, rfl⟩ := p1
  refine lg_pop C (show decode code 893 = .ok (.pop, 1) by decide +kernel) ?_
  refine lg_m C (show decode code 894 = .ok (.aload_n 2, 1) by decide +kernel) ?_
  refine lg_arg 1 C rfl (by omega) (show decode code 895 = .ok (.aload_n 0, 1) by decide +kernel) (show decode code 896 = .ok (.iload_n 3, 1) by decide +kernel) (show decode code 897 = .ok (.iconst 1, 1) by decide +kernel) (show decode code 898 = .ok (.iadd, 1) by decide +kernel) (show decode code 899 = .ok (.iaload, 1) by decide +kernel) ?_
  refine lg_arg 2 C rfl (by omega) (show decode code 900 = .ok (.aload_n 0, 1) by decide +kernel) (show decode code 901 = .ok (.iload_n 3, 1) by decide +kernel) (show decode code 902 = .ok (.iconst 2, 1) by decide +kernel) (show decode code 903 = .ok (.iadd, 1) by decide +kernel) (show decode code 904 = .ok (.iaload, 1) by decide +kernel) ?_
  refine lg_arg 3 C rfl (by omega) (show decode code 905 = .ok (.aload_n 0, 1) by decide +kernel) (show decode code 906 = .ok (.iload_n 3, 1) by decide +kernel) (show decode code 907 = .ok (.iconst 3, 1) by decide +kernel) (show decode code 908 = .ok (.iadd, 1) by decide +kernel) (show decode code 909 = .ok (.iaload, 1) by decide +kernel) ?_
  refine lg_call (M := mX12_perhaps) (ci := 12) (N := 69) (T := TX12) (ok_all 60) (by decide) C mt_253 fc_X12_perhaps fi_X12_perhaps rfl lk_1910 lk_1911 lk_1912 fd_X12_perhaps (by decide) (show decode code 910 = .ok (.invokevirtual 84, 3) by decide +kernel) (vs := [.inl (xs (j + 1)), .inl (xs (j + 2)), .inl (xs (j + 3))]) (rest := []) rfl rfl (Nat.zero_le _) b3 b1 b2 b4 (fun r h2 hr => ?_)
  obtain ⟨⟨y, rfl, -, v, rfl⟩, hJ⟩ := hr
  refine lg_pop C (show decode code 913 = .ok (.pop, 1) by decide +kernel) ?_
  refine lg_go (t := 1822) C (show decode code 914 = .ok (.goto 908, 3) by decide +kernel) (by decide) ?_
  exact kk _ _ _ hJ
theorem cs_17 (C : LC p s m meth c b L xs D tys) (hj : j + 6 ≤ L) (hp : aBoth (fun x => ∃ u : Int32, x = .inl u) (fun x y => (∃ u : Int32, x = .inl u) ∧ ∃ u : Int32, y = .inl u) 141 255 [.inl (xs (j + 1)), .inl (xs (j + 2))] J h kc ks) (kk : ∀ h kc ks, J h kc ks → LG p l e s m below meth c b D tys 0 69 j 1822 [] h kc ks) : LG p l e s m below meth c b D tys 0 69 j 917 [] h kc ks := by
  obtain ⟨mc, ms, fs, a1, a2, a3, a4⟩ := hp
  refine lg_x C (show decode code 917 = .ok (.aload_n 1, 1) by decide +kernel) ?_
  refine lg_arg 1 C rfl (by omega) (show decode code 918 = .ok (.aload_n 0, 1) by decide +kernel) (show decode code 919 = .ok (.iload_n 3, 1) by decide +kernel) (show decode code 920 = .ok (.iconst 1, 1) by decide +kernel) (show decode code 921 = .ok (.iadd, 1) by decide +kernel) (show decode code 922 = .ok (.iaload, 1) by decide +kernel) ?_
  refine lg_arg 2 C rfl (by omega) (show decode code 923 = .ok (.aload_n 0, 1) by decide +kernel) (show decode code 924 = .ok (.iload_n 3, 1) by decide +kernel) (show decode code 925 = .ok (.iconst 2, 1) by decide +kernel) (show decode code 926 = .ok (.iadd, 1) by decide +kernel) (show decode code 927 = .ok (.iaload, 1) by decide +kernel) ?_
  refine lg_call (M := mX11_whose) (ci := 11) (N := 8) (T := TX11) (ok_all 60) (by decide) C mt_141 fc_X11_whose fi_X11_whose rfl lk_1098 lk_1099 lk_1100 fd_X11_whose (by decide) (show decode code 928 = .ok (.invokevirtual 85, 3) by decide +kernel) (vs := [.inl (xs (j + 1)), .inl (xs (j + 2))]) (rest := []) rfl rfl (Nat.zero_le _) a3 a1 a2 a4 (fun r h1 hr => ?_)
  obtain ⟨x, mc2, ms2, gs, rfl, p1, b1, b2, b3, b4⟩ := hr
  obtain ⟨u, rfl⟩ := p1
  refine lg_pop C (show decode code 931 = .ok (.pop, 1) by decide +kernel) ?_
  refine lg_m C (show decode code 932 = .ok (.aload_n 2, 1) by decide +kernel) ?_
  refine lg_arg 1 C rfl (by omega) (show decode code 933 = .ok (.aload_n 0, 1) by decide +kernel) (show decode code 934 = .ok (.iload_n 3, 1) by decide +kernel) (show decode code 935 = .ok (.iconst 1, 1) by decide +kernel) (show decode code 936 = .ok (.iadd, 1) by decide +kernel) (show decode code 937 = .ok (.iaload, 1) by decide +kernel) ?_
  refine lg_arg 2 C rfl (by omega) (show decode code 938 = .ok (.aload_n 0, 1) by decide +kernel) (show decode code 939 = .ok (.iload_n 3, 1) by decide +kernel) (show decode code 940 = .ok (.iconst 2, 1) by decide +kernel) (show decode code 941 = .ok (.iadd, 1) by decide +kernel) (show decode code 942 = .ok (.iaload, 1) by decide +kernel) ?_
  refine lg_call (M := mX12_whose) (ci := 12) (N := 69) (T := TX12) (ok_all 60) (by decide) C mt_255 fc_X12_whose fi_X12_whose rfl lk_1914 lk_1915 lk_1916 fd_X12_whose (by decide) (show decode code 943 = .ok (.invokevirtual 88, 3) by decide +kernel) (vs := [.inl (xs (j + 1)), .inl (xs (j + 2))]) (rest := []) rfl rfl (Nat.zero_le _) b3 b1 b2 b4 (fun r h2 hr => ?_)
  obtain ⟨⟨y, rfl, -, v, rfl⟩, hJ⟩ := hr
  refine lg_pop C (show decode code 946 = .ok (.pop, 1) by decide +kernel) ?_
  refine lg_go (t := 1822) C (show decode code 947 = .ok (.goto 875, 3) by decide +kernel) (by decide) ?_
  exact kk _ _ _ hJ
theorem cs_18 (C : LC p s m meth c b L xs D tys) (hj : j + 6 ≤ L) (hp : aBoth (fun x => ∃ u : Int32, x = .inl u) (fun x y => (∃ u : Int32, x = .inl u) ∧ ∃ u : Int32, y = .inl u) 142 256 [.inl (xs (j + 1)), .inl (xs (j + 2))] J h kc ks) (kk : ∀ h kc ks, J h kc ks → LG p l e s m below meth c b D tys 0 69 j 1822 [] h kc ks) : LG p l e s m below meth c b D tys 0 69 j 950 [] h kc ks := by
  obtain ⟨mc, ms, fs, a1, a2, a3, a4⟩ := hp
  refine lg_x C (show decode code 950 = .ok (.aload_n 1, 1) by decide +kernel) ?_
  refine lg_arg 1 C rfl (by omega) (show decode code 951 = .ok (.aload_n 0, 1) by decide +kernel) (show decode code 952 = .ok (.iload_n 3, 1) by decide +kernel) (show decode code 953 = .ok (.iconst 1, 1) by decide +kernel) (show decode code 954 = .ok (.iadd, 1) by decide +kernel) (show decode code 955 = .ok (.iaload, 1) by decide +kernel) ?_
  refine lg_arg 2 C rfl (by omega) (show decode code 956 = .ok (.aload_n 0, 1) by decide +kernel) (show decode code 957 = .ok (.iload_n 3, 1) by decide +kernel) (show decode code 958 = .ok (.iconst 2, 1) by decide +kernel) (show decode code 959 = .ok (.iadd, 1) by decide +kernel) (show decode code 960 = .ok (.iaload, 1) by decide +kernel) ?_
  refine lg_call (M := mX11_evening) (ci := 11) (N := 8) (T := TX11) (ok_all 60) (by decide) C mt_142 fc_X11_evening fi_X11_evening rfl lk_1102 lk_1103 lk_1104 fd_X11_evening (by decide) (show decode code 961 = .ok (.invokevirtual 89, 3) by decide +kernel) (vs := [.inl (xs (j + 1)), .inl (xs (j + 2))]) (rest := []) rfl rfl (Nat.zero_le _) a3 a1 a2 a4 (fun r h1 hr => ?_)
  obtain ⟨x, mc2, ms2, gs, rfl, p1, b1, b2, b3, b4⟩ := hr
  obtain ⟨u, rfl⟩ := p1
  refine lg_pop C (show decode code 964 = .ok (.pop, 1) by decide +kernel) ?_
  refine lg_m C (show decode code 965 = .ok (.aload_n 2, 1) by decide +kernel) ?_
  refine lg_arg 1 C rfl (by omega) (show decode code 966 = .ok (.aload_n 0, 1) by decide +kernel) (show decode code 967 = .ok (.iload_n 3, 1) by decide +kernel) (show decode code 968 = .ok (.iconst 1, 1) by decide +kernel) (show decode code 969 = .ok (.iadd, 1) by decide +kernel) (show decode code 970 = .ok (.iaload, 1) by decide +kernel) ?_
  refine lg_arg 2 C rfl (by omega) (show decode code 971 = .ok (.aload_n 0, 1) by decide +kernel) (show decode code 972 = .ok (.iload_n 3, 1) by decide +kernel) (show decode code 973 = .ok (.iconst 2, 1) by decide +kernel) (show decode code 974 = .ok (.iadd, 1) by decide +kernel) (show decode code 975 = .ok (.iaload, 1) by decide +kernel) ?_
  refine lg_call (M := mX12_evening) (ci := 12) (N := 69) (T := TX12) (ok_all 60) (by decide) C mt_256 fc_X12_evening fi_X12_evening rfl lk_1922 lk_1923 lk_1924 fd_X12_evening (by decide) (show decode code 976 = .ok (.invokevirtual 92, 3) by decide +kernel) (vs := [.inl (xs (j + 1)), .inl (xs (j + 2))]) (rest := []) rfl rfl (Nat.zero_le _) b3 b1 b2 b4 (fun r h2 hr => ?_)
  obtain ⟨⟨y, rfl, -, v, rfl⟩, hJ⟩ := hr
  refine lg_pop C (show decode code 979 = .ok (.pop, 1) by decide +kernel) ?_
  refine lg_go (t := 1822) C (show decode code 980 = .ok (.goto 842, 3) by decide +kernel) (by decide) ?_
  exact kk _ _ _ hJ
theorem cs_19 (C : LC p s m meth c b L xs D tys) (hj : j + 6 ≤ L) (hp : aBoth (fun x => ∃ u : Int32, x = .inl u) (fun x y => (∃ u : Int32, x = .inl u) ∧ ∃ u : Int32, y = .inl u) 143 258 [.inl (xs (j + 1)), .inl (xs (j + 2))] J h kc ks) (kk : ∀ h kc ks, J h kc ks → LG p l e s m below meth c b D tys 0 69 j 1822 [] h kc ks) : LG p l e s m below meth c b D tys 0 69 j 983 [] h kc ks := by
  obtain ⟨mc, ms, fs, a1, a2, a3, a4⟩ := hp
  refine lg_x C (show decode code 983 = .ok (.aload_n 1, 1) by decide +kernel) ?_
  refine lg_arg 1 C rfl (by omega) (show decode code 984 = .ok (.aload_n 0, 1) by decide +kernel) (show decode code 985 = .ok (.iload_n 3, 1) by decide +kernel) (show decode code 986 = .ok (.iconst 1, 1) by decide +kernel) (show decode code 987 = .ok (.iadd, 1) by decide +kernel) (show decode code 988 = .ok (.iaload, 1) by decide +kernel) ?_
  refine lg_arg 2 C rfl (by omega) (show decode code 989 = .ok (.aload_n 0, 1) by decide +kernel) (show decode code 990 = .ok (.iload_n 3, 1) by decide +kernel) (show decode code 991 = .ok (.iconst 2, 1) by decide +kernel) (show decode code 992 = .ok (.iadd, 1) by decide +kernel) (show decode code 993 = .ok (.iaload, 1) by decide +kernel) ?_
  refine lg_call (M := mX11_behind) (ci := 11) (N := 8) (T := TX11) (ok_all 60) (by decide) C mt_143 fc_X11_behind fi_X11_behind rfl lk_1112 lk_1113 lk_1114 fd_X11_behind (by decide) (show decode code 994 = .ok (.invokevirtual 93, 3) by decide +kernel) (vs := [.inl (xs (j + 1)), .inl (xs (j + 2))]) (rest := []) rfl rfl (Nat.zero_le _) a3 a1 a2 a4 (fun r h1 hr => ?_)
  obtain ⟨x, mc2, ms2, gs, rfl, p1, b1, b2, b3, b4⟩ := hr
  obtain ⟨u, rfl⟩ := p1
  refine lg_pop C (show decode code 997 = .ok (.pop, 1) by decide +kernel) ?_
  refine lg_m C (show decode code 998 = .ok (.aload_n 2, 1) by decide +kernel) ?_
  refine lg_arg 1 C rfl (by omega) (show decode code 999 = .ok (.aload_n 0, 1) by decide +kernel) (show decode code 1000 = .ok (.iload_n 3, 1) by decide +kernel) (show decode code 1001 = .ok (.iconst 1, 1) by decide +kernel) (show decode code 1002 = .ok (.iadd, 1) by decide +kernel) (show decode code 1003 = .ok (.iaload, 1) by decide +kernel) ?_
  refine lg_arg 2 C rfl (by omega) (show decode code 1004 = .ok (.aload_n 0, 1) by decide +kernel) (show decode code 1005 = .ok (.iload_n 3, 1) by decide +kernel) (show decode code 1006 = .ok (.iconst 2, 1) by decide +kernel) (show decode code 1007 = .ok (.iadd, 1) by decide +kernel) (show decode code 1008 = .ok (.iaload, 1) by decide +kernel) ?_
  refine lg_call (M := mX12_behind) (ci := 12) (N := 69) (T := TX12) (ok_all 60) (by decide) C mt_258 fc_X12_behind fi_X12_behind rfl lk_1926 lk_1927 lk_1928 fd_X12_behind (by decide) (show decode code 1009 = .ok (.invokevirtual 96, 3) by decide +kernel) (vs := [.inl (xs (j + 1)), .inl (xs (j + 2))]) (rest := []) rfl rfl (Nat.zero_le _) b3 b1 b2 b4 (fun r h2 hr => ?_)
  obtain ⟨⟨y, rfl, -, v, rfl⟩, hJ⟩ := hr
  refine lg_pop C (show decode code 1012 = .ok (.pop, 1) by decide +kernel) ?_
  refine lg_go (t := 1822) C (show decode code 1013 = .ok (.goto 809, 3) by decide +kernel) (by decide) ?_
  exact kk _ _ _ hJ
theorem cs_20 (C : LC p s m meth c b L xs D tys) (hj : j + 6 ≤ L) (hp : aBoth (fun x => ∃ u : Int32, x = .inl u) (fun x y => (∃ u : Int32, x = .inl u) ∧ ∃ u : Int32, y = .inl u) 144 259 [.inl (xs (j + 1))] J h kc ks) (kk : ∀ h kc ks, J h kc ks → LG p l e s m below meth c b D tys 0 69 j 1822 [] h kc ks) : LG p l e s m below meth c b D tys 0 69 j 1016 [] h kc ks := by
  obtain ⟨mc, ms, fs, a1, a2, a3, a4⟩ := hp
  refine lg_x C (show decode code 1016 = .ok (.aload_n 1, 1) by decide +kernel) ?_
  refine lg_arg 1 C rfl (by omega) (show decode code 1017 = .ok (.aload_n 0, 1) by decide +kernel) (show decode code 1018 = .ok (.iload_n 3, 1) by decide +kernel) (show decode code 1019 = .ok (.iconst 1, 1) by decide +kernel) (show decode code 1020 = .ok (.iadd, 1) by decide +kernel) (show decode code 1021 = .ok (.iaload, 1) by decide +kernel) ?_
  refine lg_call (M := mX11_once) (ci := 11) (N := 8) (T := TX11) (ok_all 60) (by decide) C mt_144 fc_X11_once fi_X11_once rfl lk_1121 lk_1122 lk_1123 fd_X11_once (by decide) (show decode code 1022 = .ok (.invokevirtual 97, 3) by decide +kernel) (vs := [.inl (xs (j + 1))]) (rest := []) rfl rfl (Nat.zero_le _) a3 a1 a2 a4 (fun r h1 hr => ?_)
  obtain ⟨x, mc2, ms2, gs, rfl, p1, b1, b2, b3, b4⟩ := hr
  obtain ⟨u, rfl⟩ := p1
  refine lg_pop C (show decode code 1025 = .ok (.pop, 1) by decide +kernel) ?_
  refine lg_m C (show decode code 1026 = .ok (.aload_n 2, 1) by decide +kernel) ?_
  refine lg_arg 1 C rfl (by omega) (show decode code 1027 = .ok (.aload_n 0, 1) by decide +kernel) (show decode code 1028 = .ok (.iload_n 3, 1) by decide +kernel) (show decode code 1029 = .ok (.iconst 1, 1) by decide +kernel) (show decode code 1030 = .ok (.iadd, 1) by decide +kernel) (show decode code 1031 = .ok (.iaload, 1) by decide +kernel) ?_
  refine lg_call (M := mX12_once) (ci := 12) (N := 69) (T := TX12) (ok_all 60) (by decide) C mt_259 fc_X12_once fi_X12_once rfl lk_1934 lk_1935 lk_1936 fd_X12_once (by decide) (show decode code 1032 = .ok (.invokevirtual 100, 3) by decide +kernel) (vs := [.inl (xs (j + 1))]) (rest := []) rfl rfl (Nat.zero_le _) b3 b1 b2 b4 (fun r h2 hr => ?_)
  obtain ⟨⟨y, rfl, -, v, rfl⟩, hJ⟩ := hr
  refine lg_pop C (show decode code 1035 = .ok (.pop, 1) by decide +kernel) ?_
  refine lg_go (t := 1822) C (show decode code 1036 = .ok (.goto 786, 3) by decide +kernel) (by decide) ?_
  exact kk _ _ _ hJ
theorem cs_21 (C : LC p s m meth c b L xs D tys) (hj : j + 6 ≤ L) (hp : aBoth (fun x => ∃ u : Int32, x = .inl u) (fun x y => (∃ u : Int32, x = .inl u) ∧ ∃ u : Int32, y = .inl u) 145 264 [.inl (xs (j + 1))] J h kc ks) (kk : ∀ h kc ks, J h kc ks → LG p l e s m below meth c b D tys 0 69 j 1822 [] h kc ks) : LG p l e s m below meth c b D tys 0 69 j 1039 [] h kc ks := by
  obtain ⟨mc, ms, fs, a1, a2, a3, a4⟩ := hp
  refine lg_x C (show decode code 1039 = .ok (.aload_n 1, 1) by decide +kernel) ?_
  refine lg_arg 1 C rfl (by omega) (show decode code 1040 = .ok (.aload_n 0, 1) by decide +kernel) (show decode code 1041 = .ok (.iload_n 3, 1) by decide +kernel) (show decode code 1042 = .ok (.iconst 1, 1) by decide +kernel) (show decode code 1043 = .ok (.iadd, 1) by decide +kernel) (show decode code 1044 = .ok (.iaload, 1) by decide +kernel) ?_
  refine lg_call (M := mX11_judge) (ci := 11) (N := 8) (T := TX11) (ok_all 60) (by decide) C mt_145 fc_X11_judge fi_X11_judge rfl lk_1129 lk_1130 lk_1131 fd_X11_judge (by decide) (show decode code 1045 = .ok (.invokevirtual 101, 3) by decide +kernel) (vs := [.inl (xs (j + 1))]) (rest := []) rfl rfl (Nat.zero_le _) a3 a1 a2 a4 (fun r h1 hr => ?_)
  obtain ⟨x, mc2, ms2, gs, rfl, p1, b1, b2, b3, b4⟩ := hr
  obtain ⟨u, rfl⟩ := p1
  refine lg_pop C (show decode code 1048 = .ok (.pop, 1) by decide +kernel) ?_
  refine lg_m C (show decode code 1049 = .ok (.aload_n 2, 1) by decide +kernel) ?_
  refine lg_arg 1 C rfl (by omega) (show decode code 1050 = .ok (.aload_n 0, 1) by decide +kernel) (show decode code 1051 = .ok (.iload_n 3, 1) by decide +kernel) (show decode code 1052 = .ok (.iconst 1, 1) by decide +kernel) (show decode code 1053 = .ok (.iadd, 1) by decide +kernel) (show decode code 1054 = .ok (.iaload, 1) by decide +kernel) ?_
  refine lg_call (M := mX12_judge) (ci := 12) (N := 69) (T := TX12) (ok_all 60) (by decide) C mt_264 fc_X12_judge fi_X12_judge rfl lk_1938 lk_1939 lk_1940 fd_X12_judge (by decide) (show decode code 1055 = .ok (.invokevirtual 104, 3) by decide +kernel) (vs := [.inl (xs (j + 1))]) (rest := []) rfl rfl (Nat.zero_le _) b3 b1 b2 b4 (fun r h2 hr => ?_)
  obtain ⟨⟨y, rfl, -, v, rfl⟩, hJ⟩ := hr
  refine lg_pop C (show decode code 1058 = .ok (.pop, 1) by decide +kernel) ?_
  refine lg_go (t := 1822) C (show decode code 1059 = .ok (.goto 763, 3) by decide +kernel) (by decide) ?_
  exact kk _ _ _ hJ
theorem cs_22 (C : LC p s m meth c b L xs D tys) (hj : j + 6 ≤ L) (hp : aBoth (fun x => ∃ u : Int32, x = .inl u) (fun x y => (∃ u : Int32, x = .inl u) ∧ ∃ u : Int32, y = .inl u) 146 266 [.inl (xs (j + 1))] J h kc ks) (kk : ∀ h kc ks, J h kc ks → LG p l e s m below meth c b D tys 0 69 j 1822 [] h kc ks) : LG p l e s m below meth c b D tys 0 69 j 1062 [] h kc ks := by
  obtain ⟨mc, ms, fs, a1, a2, a3, a4⟩ := hp
  refine lg_x C (show decode code 1062 = .ok (.aload_n 1, 1) by decide +kernel) ?_
  refine lg_arg 1 C rfl (by omega) (show decode code 1063 = .ok (.aload_n 0, 1) by decide +kernel) (show decode code 1064 = .ok (.iload_n 3, 1) by decide +kernel) (show decode code 1065 = .ok (.iconst 1, 1) by decide +kernel) (show decode code 1066 = .ok (.iadd, 1) by decide +kernel) (show decode code 1067 = .ok (.iaload, 1) by decide +kernel) ?_
  refine lg_call (M := mX11_best) (ci := 11) (N := 8) (T := TX11) (ok_all 60) (by decide) C mt_146 fc_X11_best fi_X11_best rfl lk_1167 lk_1168 lk_1169 fd_X11_best (by decide) (show decode code 1068 = .ok (.invokevirtual 105, 3) by decide +kernel) (vs := [.inl (xs (j + 1))]) (rest := []) rfl rfl (Nat.zero_le _) a3 a1 a2 a4 (fun r h1 hr => ?_)
  obtain ⟨x, mc2, ms2, gs, rfl, p1, b1, b2, b3, b4⟩ := hr
  obtain ⟨u, rfl⟩ := p1
  refine lg_pop C (show decode code 1071 = .ok (.pop, 1) by decide +kernel) ?_
  refine lg_m C (show decode code 1072 = .ok (.aload_n 2, 1) by decide +kernel) ?_
  refine lg_arg 1 C rfl (by omega) (show decode code 1073 = .ok (.aload_n 0, 1) by decide +kernel) (show decode code 1074 = .ok (.iload_n 3, 1) by decide +kernel) (show decode code 1075 = .ok (.iconst 1, 1) by decide +kernel) (show decode code 1076 = .ok (.iadd, 1) by decide +kernel) (show decode code 1077 = .ok (.iaload, 1) by decide +kernel) ?_
  refine lg_call (M := mX12_best) (ci := 12) (N := 69) (T := TX12) (ok_all 60) (by decide) C mt_266 fc_X12_best fi_X12_best rfl lk_1958 lk_1959 lk_1960 fd_X12_best (by decide) (show decode code 1078 = .ok (.invokevirtual 108, 3) by decide +kernel) (vs := [.inl (xs (j + 1))]) (rest := []) rfl rfl (Nat.zero_le _) b3 b1 b2 b4 (fun r h2 hr => ?_)
  obtain ⟨⟨y, rfl, -, v, rfl⟩, hJ⟩ := hr
  refine lg_pop C (show decode code 1081 = .ok (.pop, 1) by decide +kernel) ?_
  refine lg_go (t := 1822) C (show decode code 1082 = .ok (.goto 740, 3) by decide +kernel) (by decide) ?_
  exact kk _ _ _ hJ
theorem cs_23 (C : LC p s m meth c b L xs D tys) (hj : j + 6 ≤ L) (hp : aBoth (fun x => ∃ u : Int32, x = .inl u) (fun x y => (∃ u : Int32, x = .inl u) ∧ ∃ u : Int32, y = .inl u) 147 267 [.inl (xs (j + 1)), .inl (xs (j + 2))] J h kc ks) (kk : ∀ h kc ks, J h kc ks → LG p l e s m below meth c b D tys 0 69 j 1822 [] h kc ks) : LG p l e s m below meth c b D tys 0 69 j 1085 [] h kc ks := by
  obtain ⟨mc, ms, fs, a1, a2, a3, a4⟩ := hp
  refine lg_x C (show decode code 1085 = .ok (.aload_n 1, 1) by decide +kernel) ?_
  refine lg_arg 1 C rfl (by omega) (show decode code 1086 = .ok (.aload_n 0, 1) by decide +kernel) (show decode code 1087 = .ok (.iload_n 3, 1) by decide +kernel) (show decode code 1088 = .ok (.iconst 1, 1) by decide +kernel) (show decode code 1089 = .ok (.iadd, 1) by decide +kernel) (show decode code 1090 = .ok (.iaload, 1) by decide +kernel) ?_
  refine lg_arg 2 C rfl (by omega) (show decode code 1091 = .ok (.aload_n 0, 1) by decide +kernel) (show decode code 1092 = .ok (.iload_n 3, 1) by decide +kernel) (show decode code 1093 = .ok (.iconst 2, 1) by decide +kernel) (show decode code 1094 = .ok (.iadd, 1) by decide +kernel) (show decode code 1095 = .ok (.iaload, 1) by decide +kernel) ?_
  refine lg_call (M := mX11_observed) (ci := 11) (N := 8) (T := TX11) (ok_all 60) (by decide) C mt_147 fc_X11_observed fi_X11_observed rfl lk_1176 lk_1177 lk_1178 fd_X11_observed (by decide) (show decode code 1096 = .ok (.invokevirtual 109, 3) by decide +kernel) (vs := [.inl (xs (j + 1)), .inl (xs (j + 2))]) (rest := []) rfl rfl (Nat.zero_le _) a3 a1 a2 a4 (fun r h1 hr => ?_)
  obtain ⟨x, mc2, ms2, gs, rfl, p1, b1, b2, b3, b4⟩ := hr
  obtain ⟨u, rfl⟩ := p1
  refine lg_pop C (show decode code 1099 = .ok (.pop, 1) by decide +kernel) ?_
  refine lg_m C (show decode code 1100 = .ok (.aload_n 2, 1) by decide +kernel) ?_
  refine lg_arg 1 C rfl (by omega) (show decode code 1101 = .ok (.aload_n 0, 1) by decide +kernel) (show decode code 1102 = .ok (.iload_n 3, 1) by decide +kernel) (show decode code 1103 = .ok (.iconst 1, 1) by decide +kernel) (show decode code 1104 = .ok (.iadd, 1) by decide +kernel) (show decode code 1105 = .ok (.iaload, 1) by decide +kernel) ?_
  refine lg_arg 2 C rfl (by omega) (show decode code 1106 = .ok (.aload_n 0, 1) by decide +kernel) (show decode code 1107 = .ok (.iload_n 3, 1) by decide +kernel) (show decode code 1108 = .ok (.iconst 2, 1) by decide +kernel) (show decode code 1109 = .ok (.iadd, 1) by decide +kernel) (show decode code 1110 = .ok (.iaload, 1) by decide +kernel) ?_
  refine lg_call (M := mX12_observed) (ci := 12) (N := 69) (T := TX12) (ok_all 60) (by decide) C mt_267 fc_X12_observed fi_X12_observed rfl lk_1965 lk_1966 lk_1967 fd_X12_observed (by decide) (show decode code 1111 = .ok (.invokevirtual 112, 3) by decide +kernel) (vs := [.inl (xs (j + 1)), .inl (xs (j + 2))]) (rest := []) rfl rfl (Nat.zero_le _) b3 b1 b2 b4 (fun r h2 hr => ?_)
  obtain ⟨⟨y, rfl, -, v, rfl⟩, hJ⟩ := hr
  refine lg_pop C (show decode code 1114 = .ok (.pop, 1) by decide +kernel) ?_
  refine lg_go (t := 1822) C (show decode code 1115 = .ok (.goto 707, 3) by decide +kernel) (by decide) ?_
  exact kk _ _ _ hJ
theorem cs_24 (C : LC p s m meth c b L xs D tys) (hj : j + 6 ≤ L) (hp : aBoth (fun x => ∃ u : Int32, x = .inl u) (fun x y => (∃ u : Int32, x = .inl u) ∧ ∃ u : Int32, y = .inl u) 148 270 [.inl (xs (j + 1)), .inl (xs (j + 2)), .inl (xs (j + 3))] J h kc ks) (kk : ∀ h kc ks, J h kc ks → LG p l e s m below meth c b D tys 0 69 j 1822 [] h kc ks) : LG p l e s m below meth c b D tys 0 69 j 1118 [] h kc ks := by
  obtain ⟨mc, ms, fs, a1, a2, a3, a4⟩ := hp
  refine lg_x C (show decode code 1118 = .ok (.aload_n 1, 1) by decide +kernel) ?_
  refine lg_arg 1 C rfl (by omega) (show decode code 1119 = .ok (.aload_n 0, 1) by decide +kernel) (show decode code 1120 = .ok (.iload_n 3, 1) by decide +kernel) (show decode code 1121 = .ok (.iconst 1, 1) by decide +kernel) (show decode code 1122 = .ok (.iadd, 1) by decide +kernel) (show decode code 1123 = .ok (.iaload, 1) by decide +kernel) ?_
  refine lg_arg 2 C rfl (by omega) (show decode code 1124 = .ok (.aload_n 0, 1) by decide +kernel) (show decode code 1125 = .ok (.iload_n 3, 1) by decide +kernel) (show decode code 1126 = .ok (.iconst 2, 1) by decide +kernel) (show decode code 1127 = .ok (.iadd, 1) by decide +kernel) (show decode code 1128 = .ok (.iaload, 1) by decide +kernel) ?_
  refine lg_arg 3 C rfl (by omega) (show decode code 1129 = .ok (.aload_n 0, 1) by decide +kernel) (show decode code 1130 = .ok (.iload_n 3, 1) by decide +kernel) (show decode code 1131 = .ok (.iconst 3, 1) by decide +kernel) (show decode code 1132 = .ok (.iadd, 1) by decide +kernel) (show decode code 1133 = .ok (.iaload, 1) by decide +kernel) ?_
  refine lg_call (M := mX11_paths) (ci := 11) (N := 8) (T := TX11) (ok_all 60) (by decide) C mt_148 fc_X11_paths fi_X11_paths rfl lk_1184 lk_1185 lk_1186 fd_X11_paths (by decide) (show decode code 1134 = .ok (.invokevirtual 113, 3) by decide +kernel) (vs := [.inl (xs (j + 1)), .inl (xs (j + 2)), .inl (xs (j + 3))]) (rest := []) rfl rfl (Nat.zero_le _) a3 a1 a2 a4 (fun r h1 hr => ?_)
  obtain ⟨x, mc2, ms2, gs, rfl, p1, b1, b2, b3, b4⟩ := hr
  obtain ⟨u, rfl⟩ := p1
  refine lg_pop C (show decode code 1137 = .ok (.pop, 1) by decide +kernel) ?_
  refine lg_m C (show decode code 1138 = .ok (.aload_n 2, 1) by decide +kernel) ?_
  refine lg_arg 1 C rfl (by omega) (show decode code 1139 = .ok (.aload_n 0, 1) by decide +kernel) (show decode code 1140 = .ok (.iload_n 3, 1) by decide +kernel) (show decode code 1141 = .ok (.iconst 1, 1) by decide +kernel) (show decode code 1142 = .ok (.iadd, 1) by decide +kernel) (show decode code 1143 = .ok (.iaload, 1) by decide +kernel) ?_
  refine lg_arg 2 C rfl (by omega) (show decode code 1144 = .ok (.aload_n 0, 1) by decide +kernel) (show decode code 1145 = .ok (.iload_n 3, 1) by decide +kernel) (show decode code 1146 = .ok (.iconst 2, 1) by decide +kernel) (show decode code 1147 = .ok (.iadd, 1) by decide +kernel) (show decode code 1148 = .ok (.iaload, 1) by decide +kernel) ?_
  refine lg_arg 3 C rfl (by omega) (show decode code 1149 = .ok (.aload_n 0, 1) by decide +kernel) (show decode code 1150 = .ok (.iload_n 3, 1) by decide +kernel) (show decode code 1151 = .ok (.iconst 3, 1) by decide +kernel) (show decode code 1152 = .ok (.iadd, 1) by decide +kernel) (show decode code 1153 = .ok (.iaload, 1) by decide +kernel) ?_
  refine lg_call (M := mX12_paths) (ci := 12) (N := 69) (T := TX12) (ok_all 60) (by decide) C mt_270 fc_X12_paths fi_X12_paths rfl lk_1973 lk_1974 lk_1975 fd_X12_paths (by decide) (show decode code 1154 = .ok (.invokevirtual 116, 3) by decide +kernel) (vs := [.inl (xs (j + 1)), .inl (xs (j + 2)), .inl (xs (j + 3))]) (rest := []) rfl rfl (Nat.zero_le _) b3 b1 b2 b4 (fun r h2 hr => ?_)
  obtain ⟨⟨y, rfl, -, v, rfl⟩, hJ⟩ := hr
  refine lg_pop C (show decode code 1157 = .ok (.pop, 1) by decide +kernel) ?_
  refine lg_go (t := 1822) C (show decode code 1158 = .ok (.goto 664, 3) by decide +kernel) (by decide) ?_
  exact kk _ _ _ hJ
theorem cs_25 (C : LC p s m meth c b L xs D tys) (hj : j + 6 ≤ L) (hp : aBoth (fun x => ∃ u : Int32, x = .inl u) (fun x y => (∃ u : Int32, x = .inl u) ∧ ∃ u : Int32, y = .inl u) 149 268 [] J h kc ks) (kk : ∀ h kc ks, J h kc ks → LG p l e s m below meth c b D tys 0 69 j 1822 [] h kc ks) : LG p l e s m below meth c b D tys 0 69 j 1161 [] h kc ks := by
  obtain ⟨mc, ms, fs, a1, a2, a3, a4⟩ := hp
  refine lg_x C (show decode code 1161 = .ok (.aload_n 1, 1) by decide +kernel) ?_
  refine lg_call (M := mX11_forget) (ci := 11) (N := 8) (T := TX11) (ok_all 60) (by decide) C mt_149 fc_X11_forget fi_X11_forget rfl lk_1202 lk_1203 lk_1204 fd_X11_forget (by decide) (show decode code 1162 = .ok (.invokevirtual 117, 3) by decide +kernel) (vs := []) (rest := []) rfl rfl (Nat.zero_le _) a3 a1 a2 a4 (fun r h1 hr => ?_)
  obtain ⟨x, mc2, ms2, gs, rfl, p1, b1, b2, b3, b4⟩ := hr
  obtain ⟨u, rfl⟩ := p1
  refine lg_pop C (show decode code 1165 = .ok (.pop, 1) by decide +kernel) ?_
  refine lg_m C (show decode code 1166 = .ok (.aload_n 2, 1) by decide +kernel) ?_
  refine lg_call (M := mX12_forget) (ci := 12) (N := 69) (T := TX12) (ok_all 60) (by decide) C mt_268 fc_X12_forget fi_X12_forget rfl lk_1969 lk_1970 lk_1971 fd_X12_forget (by decide) (show decode code 1167 = .ok (.invokevirtual 121, 3) by decide +kernel) (vs := []) (rest := []) rfl rfl (Nat.zero_le _) b3 b1 b2 b4 (fun r h2 hr => ?_)
  obtain ⟨⟨y, rfl, -, v, rfl⟩, hJ⟩ := hr
  refine lg_pop C (show decode code 1170 = .ok (.pop, 1) by decide +kernel) ?_
  refine lg_go (t := 1822) C (show decode code 1171 = .ok (.goto 651, 3) by decide +kernel) (by decide) ?_
  exact kk _ _ _ hJ
theorem cs_26 (C : LC p s m meth c b L xs D tys) (hj : j + 6 ≤ L) (hp : aBoth (fun x => ∃ u : Int32, x = .inl u) (fun x y => (∃ u : Int32, x = .inl u) ∧ ∃ u : Int32, y = .inl u) 150 271 [.inl (xs (j + 1)), .inl (xs (j + 2)), .inl (xs (j + 3))] J h kc ks) (kk : ∀ h kc ks, J h kc ks → LG p l e s m below meth c b D tys 0 69 j 1822 [] h kc ks) : LG p l e s m below meth c b D tys 0 69 j 1174 [] h kc ks := by
  obtain ⟨mc, ms, fs, a1, a2, a3, a4⟩ := hp
  refine lg_x C (show decode code 1174 = .ok (.aload_n 1, 1) by decide +kernel) ?_
  refine lg_arg 1 C rfl (by omega) (show decode code 1175 = .ok (.aload_n 0, 1) by decide +kernel) (show decode code 1176 = .ok (.iload_n 3, 1) by decide +kernel) (show decode code 1177 = .ok (.iconst 1, 1) by decide +kernel) (show decode code 1178 = .ok (.iadd, 1) by decide +kernel) (show decode code 1179 = .ok (.iaload, 1) by decide +kernel) ?_
  refine lg_arg 2 C rfl (by omega) (show decode code 1180 = .ok (.aload_n 0, 1) by decide +kernel) (show decode code 1181 = .ok (.iload_n 3, 1) by decide +kernel) (show decode code 1182 = .ok (.iconst 2, 1) by decide +kernel) (show decode code 1183 = .ok (.iadd, 1) by decide +kernel) (show decode code 1184 = .ok (.iaload, 1) by decide +kernel) ?_
  refine lg_arg 3 C rfl (by omega) (show decode code 1185 = .ok (.aload_n 0, 1) by decide +kernel) (show decode code 1186 = .ok (.iload_n 3, 1) by decide +kernel) (show decode code 1187 = .ok (.iconst 3, 1) by decide +kernel) (show decode code 1188 = .ok (.iadd, 1) by decide +kernel) (show decode code 1189 = .ok (.iaload, 1) by decide +kernel) ?_
  refine lg_call (M := mX11_alike) (ci := 11) (N := 8) (T := TX11) (ok_all 60) (by decide) C mt_150 fc_X11_alike fi_X11_alike rfl lk_1206 lk_1207 lk_1208 fd_X11_alike (by decide) (show decode code 1190 = .ok (.invokevirtual 122, 3) by decide +kernel) (vs := [.inl (xs (j + 1)), .inl (xs (j + 2)), .inl (xs (j + 3))]) (rest := []) rfl rfl (Nat.zero_le _) a3 a1 a2 a4 (fun r h1 hr => ?_)
  obtain ⟨x, mc2, ms2, gs, rfl, p1, b1, b2, b3, b4⟩ := hr
  obtain ⟨u, rfl⟩ := p1
  refine lg_pop C (show decode code 1193 = .ok (.pop, 1) by decide +kernel) ?_
  refine lg_m C (show decode code 1194 = .ok (.aload_n 2, 1) by decide +kernel) ?_
  refine lg_arg 1 C rfl (by omega) (show decode code 1195 = .ok (.aload_n 0, 1) by decide +kernel) (show decode code 1196 = .ok (.iload_n 3, 1) by decide +kernel) (show decode code 1197 = .ok (.iconst 1, 1) by decide +kernel) (show decode code 1198 = .ok (.iadd, 1) by decide +kernel) (show decode code 1199 = .ok (.iaload, 1) by decide +kernel) ?_
  refine lg_arg 2 C rfl (by omega) (show decode code 1200 = .ok (.aload_n 0, 1) by decide +kernel) (show decode code 1201 = .ok (.iload_n 3, 1) by decide +kernel) (show decode code 1202 = .ok (.iconst 2, 1) by decide +kernel) (show decode code 1203 = .ok (.iadd, 1) by decide +kernel) (show decode code 1204 = .ok (.iaload, 1) by decide +kernel) ?_
  refine lg_arg 3 C rfl (by omega) (show decode code 1205 = .ok (.aload_n 0, 1) by decide +kernel) (show decode code 1206 = .ok (.iload_n 3, 1) by decide +kernel) (show decode code 1207 = .ok (.iconst 3, 1) by decide +kernel) (show decode code 1208 = .ok (.iadd, 1) by decide +kernel) (show decode code 1209 = .ok (.iaload, 1) by decide +kernel) ?_
  refine lg_call (M := mX12_alike) (ci := 12) (N := 69) (T := TX12) (ok_all 60) (by decide) C mt_271 fc_X12_alike fi_X12_alike rfl lk_1981 lk_1982 lk_1983 fd_X12_alike (by decide) (show decode code 1210 = .ok (.invokevirtual 125, 3) by decide +kernel) (vs := [.inl (xs (j + 1)), .inl (xs (j + 2)), .inl (xs (j + 3))]) (rest := []) rfl rfl (Nat.zero_le _) b3 b1 b2 b4 (fun r h2 hr => ?_)
  obtain ⟨⟨y, rfl, -, v, rfl⟩, hJ⟩ := hr
  refine lg_pop C (show decode code 1213 = .ok (.pop, 1) by decide +kernel) ?_
  refine lg_go (t := 1822) C (show decode code 1214 = .ok (.goto 608, 3) by decide +kernel) (by decide) ?_
  exact kk _ _ _ hJ
theorem cs_27 (C : LC p s m meth c b L xs D tys) (hj : j + 6 ≤ L) (hp : aBoth (fun x => ∃ u : Int32, x = .inl u) (fun x y => (∃ u : Int32, x = .inl u) ∧ ∃ u : Int32, y = .inl u) 151 273 [.inl (xs (j + 1)), .inl (xs (j + 2)), .inl (xs (j + 3))] J h kc ks) (kk : ∀ h kc ks, J h kc ks → LG p l e s m below meth c b D tys 0 69 j 1822 [] h kc ks) : LG p l e s m below meth c b D tys 0 69 j 1217 [] h kc ks := by
  obtain ⟨mc, ms, fs, a1, a2, a3, a4⟩ := hp
  refine lg_x C (show decode code 1217 = .ok (.aload_n 1, 1) by decide +kernel) ?_
  refine lg_arg 1 C rfl (by omega) (show decode code 1218 = .ok (.aload_n 0, 1) by decide +kernel) (show decode code 1219 = .ok (.iload_n 3, 1) by decide +kernel) (show decode code 1220 = .ok (.iconst 1, 1) by decide +kernel) (show decode code 1221 = .ok (.iadd, 1) by decide +kernel) (show decode code 1222 = .ok (.iaload, 1) by decide +kernel) ?_
  refine lg_arg 2 C rfl (by omega) (show decode code 1223 = .ok (.aload_n 0, 1) by decide +kernel) (show decode code 1224 = .ok (.iload_n 3, 1) by decide +kernel) (show decode code 1225 = .ok (.iconst 2, 1) by decide +kernel) (show decode code 1226 = .ok (.iadd, 1) by decide +kernel) (show decode code 1227 = .ok (.iaload, 1) by decide +kernel) ?_
  refine lg_arg 3 C rfl (by omega) (show decode code 1228 = .ok (.aload_n 0, 1) by decide +kernel) (show decode code 1229 = .ok (.iload_n 3, 1) by decide +kernel) (show decode code 1230 = .ok (.iconst 3, 1) by decide +kernel) (show decode code 1231 = .ok (.iadd, 1) by decide +kernel) (show decode code 1232 = .ok (.iaload, 1) by decide +kernel) ?_
  refine lg_call (M := mX11_chance) (ci := 11) (N := 8) (T := TX11) (ok_all 60) (by decide) C mt_151 fc_X11_chance fi_X11_chance rfl lk_1214 lk_1215 lk_1216 fd_X11_chance (by decide) (show decode code 1233 = .ok (.invokevirtual 126, 3) by decide +kernel) (vs := [.inl (xs (j + 1)), .inl (xs (j + 2)), .inl (xs (j + 3))]) (rest := []) rfl rfl (Nat.zero_le _) a3 a1 a2 a4 (fun r h1 hr => ?_)
  obtain ⟨x, mc2, ms2, gs, rfl, p1, b1, b2, b3, b4⟩ := hr
  obtain ⟨u, rfl⟩ := p1
  refine lg_pop C (show decode code 1236 = .ok (.pop, 1) by decide +kernel) ?_
  refine lg_m C (show decode code 1237 = .ok (.aload_n 2, 1) by decide +kernel) ?_
  refine lg_arg 1 C rfl (by omega) (show decode code 1238 = .ok (.aload_n 0, 1) by decide +kernel) (show decode code 1239 = .ok (.iload_n 3, 1) by decide +kernel) (show decode code 1240 = .ok (.iconst 1, 1) by decide +kernel) (show decode code 1241 = .ok (.iadd, 1) by decide +kernel) (show decode code 1242 = .ok (.iaload, 1) by decide +kernel) ?_
  refine lg_arg 2 C rfl (by omega) (show decode code 1243 = .ok (.aload_n 0, 1) by decide +kernel) (show decode code 1244 = .ok (.iload_n 3, 1) by decide +kernel) (show decode code 1245 = .ok (.iconst 2, 1) by decide +kernel) (show decode code 1246 = .ok (.iadd, 1) by decide +kernel) (show decode code 1247 = .ok (.iaload, 1) by decide +kernel) ?_
  refine lg_arg 3 C rfl (by omega) (show decode code 1248 = .ok (.aload_n 0, 1) by decide +kernel) (show decode code 1249 = .ok (.iload_n 3, 1) by decide +kernel) (show decode code 1250 = .ok (.iconst 3, 1) by decide +kernel) (show decode code 1251 = .ok (.iadd, 1) by decide +kernel) (show decode code 1252 = .ok (.iaload, 1) by decide +kernel) ?_
  refine lg_call (M := mX12_chance) (ci := 12) (N := 69) (T := TX12) (ok_all 60) (by decide) C mt_273 fc_X12_chance fi_X12_chance rfl lk_1985 lk_1986 lk_1987 fd_X12_chance (by decide) (show decode code 1253 = .ok (.invokevirtual 129, 3) by decide +kernel) (vs := [.inl (xs (j + 1)), .inl (xs (j + 2)), .inl (xs (j + 3))]) (rest := []) rfl rfl (Nat.zero_le _) b3 b1 b2 b4 (fun r h2 hr => ?_)
  obtain ⟨⟨y, rfl, -, v, rfl⟩, hJ⟩ := hr
  refine lg_pop C (show decode code 1256 = .ok (.pop, 1) by decide +kernel) ?_
  refine lg_go (t := 1822) C (show decode code 1257 = .ok (.goto 565, 3) by decide +kernel) (by decide) ?_
  exact kk _ _ _ hJ
theorem cs_28 (C : LC p s m meth c b L xs D tys) (hj : j + 6 ≤ L) (hp : aBoth (fun x => ∃ u : Int32, x = .inl u) (fun x y => (∃ u : Int32, x = .inl u) ∧ ∃ u : Int32, y = .inl u) 152 275 [.inl (xs (j + 1)), .inl (xs (j + 2)), .inl (xs (j + 3)), .inl (xs (j + 4))] J h kc ks) (kk : ∀ h kc ks, J h kc ks → LG p l e s m below meth c b D tys 0 69 j 1822 [] h kc ks) : LG p l e s m below meth c b D tys 0 69 j 1260 [] h kc ks := by
  obtain ⟨mc, ms, fs, a1, a2, a3, a4⟩ := hp
  refine lg_x C (show decode code 1260 = .ok (.aload_n 1, 1) by decide +kernel) ?_
  refine lg_arg 1 C rfl (by omega) (show decode code 1261 = .ok (.aload_n 0, 1) by decide +kernel) (show decode code 1262 = .ok (.iload_n 3, 1) by decide +kernel) (show decode code 1263 = .ok (.iconst 1, 1) by decide +kernel) (show decode code 1264 = .ok (.iadd, 1) by decide +kernel) (show decode code 1265 = .ok (.iaload, 1) by decide +kernel) ?_
  refine lg_arg 2 C rfl (by omega) (show decode code 1266 = .ok (.aload_n 0, 1) by decide +kernel) (show decode code 1267 = .ok (.iload_n 3, 1) by decide +kernel) (show decode code 1268 = .ok (.iconst 2, 1) by decide +kernel) (show decode code 1269 = .ok (.iadd, 1) by decide +kernel) (show decode code 1270 = .ok (.iaload, 1) by decide +kernel) ?_
  refine lg_arg 3 C rfl (by omega) (show decode code 1271 = .ok (.aload_n 0, 1) by decide +kernel) (show decode code 1272 = .ok (.iload_n 3, 1) by decide +kernel) (show decode code 1273 = .ok (.iconst 3, 1) by decide +kernel) (show decode code 1274 = .ok (.iadd, 1) by decide +kernel) (show decode code 1275 = .ok (.iaload, 1) by decide +kernel) ?_
  refine lg_arg 4 C rfl (by omega) (show decode code 1276 = .ok (.aload_n 0, 1) by decide +kernel) (show decode code 1277 = .ok (.iload_n 3, 1) by decide +kernel) (show decode code 1278 = .ok (.iconst 4, 1) by decide +kernel) (show decode code 1279 = .ok (.iadd, 1) by decide +kernel) (show decode code 1280 = .ok (.iaload, 1) by decide +kernel) ?_
  refine lg_call (M := mX11_foretold) (ci := 11) (N := 8) (T := TX11) (ok_all 60) (by decide) C mt_152 fc_X11_foretold fi_X11_foretold rfl lk_1231 lk_1232 lk_1233 fd_X11_foretold (by decide) (show decode code 1281 = .ok (.invokevirtual 130, 3) by decide +kernel) (vs := [.inl (xs (j + 1)), .inl (xs (j + 2)), .inl (xs (j + 3)), .inl (xs (j + 4))]) (rest := []) rfl rfl (Nat.zero_le _) a3 a1 a2 a4 (fun r h1 hr => ?_)
  obtain ⟨x, mc2, ms2, gs, rfl, p1, b1, b2, b3, b4⟩ := hr
  obtain ⟨u, rfl⟩ := p1
  refine lg_pop C (show decode code 1284 = .ok (.pop, 1) by decide +kernel) ?_
  refine lg_m C (show decode code 1285 = .ok (.aload_n 2, 1) by decide +kernel) ?_
  refine lg_arg 1 C rfl (by omega) (show decode code 1286 = .ok (.aload_n 0, 1) by decide +kernel) (show decode code 1287 = .ok (.iload_n 3, 1) by decide +kernel) (show decode code 1288 = .ok (.iconst 1, 1) by decide +kernel) (show decode code 1289 = .ok (.iadd, 1) by decide +kernel) (show decode code 1290 = .ok (.iaload, 1) by decide +kernel) ?_
  refine lg_arg 2 C rfl (by omega) (show decode code 1291 = .ok (.aload_n 0, 1) by decide +kernel) (show decode code 1292 = .ok (.iload_n 3, 1) by decide +kernel) (show decode code 1293 = .ok (.iconst 2, 1) by decide +kernel) (show decode code 1294 = .ok (.iadd, 1) by decide +kernel) (show decode code 1295 = .ok (.iaload, 1) by decide +kernel) ?_
  refine lg_arg 3 C rfl (by omega) (show decode code 1296 = .ok (.aload_n 0, 1) by decide +kernel) (show decode code 1297 = .ok (.iload_n 3, 1) by decide +kernel) (show decode code 1298 = .ok (.iconst 3, 1) by decide +kernel) (show decode code 1299 = .ok (.iadd, 1) by decide +kernel) (show decode code 1300 = .ok (.iaload, 1) by decide +kernel) ?_
  refine lg_arg 4 C rfl (by omega) (show decode code 1301 = .ok (.aload_n 0, 1) by decide +kernel) (show decode code 1302 = .ok (.iload_n 3, 1) by decide +kernel) (show decode code 1303 = .ok (.iconst 4, 1) by decide +kernel) (show decode code 1304 = .ok (.iadd, 1) by decide +kernel) (show decode code 1305 = .ok (.iaload, 1) by decide +kernel) ?_
  refine lg_call (M := mX12_foretold) (ci := 12) (N := 69) (T := TX12) (ok_all 60) (by decide) C mt_275 fc_X12_foretold fi_X12_foretold rfl lk_1994 lk_1995 lk_1996 fd_X12_foretold (by decide) (show decode code 1306 = .ok (.invokevirtual 133, 3) by decide +kernel) (vs := [.inl (xs (j + 1)), .inl (xs (j + 2)), .inl (xs (j + 3)), .inl (xs (j + 4))]) (rest := []) rfl rfl (Nat.zero_le _) b3 b1 b2 b4 (fun r h2 hr => ?_)
  obtain ⟨⟨y, rfl, -, v, rfl⟩, hJ⟩ := hr
  refine lg_pop C (show decode code 1309 = .ok (.pop, 1) by decide +kernel) ?_
  refine lg_go (t := 1822) C (show decode code 1310 = .ok (.goto 512, 3) by decide +kernel) (by decide) ?_
  exact kk _ _ _ hJ
theorem cs_29 (C : LC p s m meth c b L xs D tys) (hj : j + 6 ≤ L) (hp : aBoth (fun x => ∃ u : Int32, x = .inl u) (fun x y => (∃ u : Int32, x = .inl u) ∧ ∃ u : Int32, y = .inl u) 153 277 [.inl (xs (j + 1)), .inl (xs (j + 2)), .inl (xs (j + 3))] J h kc ks) (kk : ∀ h kc ks, J h kc ks → LG p l e s m below meth c b D tys 0 69 j 1822 [] h kc ks) : LG p l e s m below meth c b D tys 0 69 j 1313 [] h kc ks := by
  obtain ⟨mc, ms, fs, a1, a2, a3, a4⟩ := hp
  refine lg_x C (show decode code 1313 = .ok (.aload_n 1, 1) by decide +kernel) ?_
  refine lg_arg 1 C rfl (by omega) (show decode code 1314 = .ok (.aload_n 0, 1) by decide +kernel) (show decode code 1315 = .ok (.iload_n 3, 1) by decide +kernel) (show decode code 1316 = .ok (.iconst 1, 1) by decide +kernel) (show decode code 1317 = .ok (.iadd, 1) by decide +kernel) (show decode code 1318 = .ok (.iaload, 1) by decide +kernel) ?_
  refine lg_arg 2 C rfl (by omega) (show decode code 1319 = .ok (.aload_n 0, 1) by decide +kernel) (show decode code 1320 = .ok (.iload_n 3, 1) by decide +kernel) (show decode code 1321 = .ok (.iconst 2, 1) by decide +kernel) (show decode code 1322 = .ok (.iadd, 1) by decide +kernel) (show decode code 1323 = .ok (.iaload, 1) by decide +kernel) ?_
  refine lg_arg 3 C rfl (by omega) (show decode code 1324 = .ok (.aload_n 0, 1) by decide +kernel) (show decode code 1325 = .ok (.iload_n 3, 1) by decide +kernel) (show decode code 1326 = .ok (.iconst 3, 1) by decide +kernel) (show decode code 1327 = .ok (.iadd, 1) by decide +kernel) (show decode code 1328 = .ok (.iaload, 1) by decide +kernel) ?_
  refine lg_call (M := mX11_right) (ci := 11) (N := 8) (T := TX11) (ok_all 60) (by decide) C mt_153 fc_X11_right fi_X11_right rfl lk_1241 lk_1242 lk_1243 fd_X11_right (by decide) (show decode code 1329 = .ok (.invokevirtual 134, 3) by decide +kernel) (vs := [.inl (xs (j + 1)), .inl (xs (j + 2)), .inl (xs (j + 3))]) (rest := []) rfl rfl (Nat.zero_le _) a3 a1 a2 a4 (fun r h1 hr => ?_)
  obtain ⟨x, mc2, ms2, gs, rfl, p1, b1, b2, b3, b4⟩ := hr
  obtain ⟨u, rfl⟩ := p1
  refine lg_pop C (show decode code 1332 = .ok (.pop, 1) by decide +kernel) ?_
  refine lg_m C (show decode code 1333 = .ok (.aload_n 2, 1) by decide +kernel) ?_
  refine lg_arg 1 C rfl (by omega) (show decode code 1334 = .ok (.aload_n 0, 1) by decide +kernel) (show decode code 1335 = .ok (.iload_n 3, 1) by decide +kernel) (show decode code 1336 = .ok (.iconst 1, 1) by decide +kernel) (show decode code 1337 = .ok (.iadd, 1) by decide +kernel) (show decode code 1338 = .ok (.iaload, 1) by decide +kernel) ?_
  refine lg_arg 2 C rfl (by omega) (show decode code 1339 = .ok (.aload_n 0, 1) by decide +kernel) (show decode code 1340 = .ok (.iload_n 3, 1) by decide +kernel) (show decode code 1341 = .ok (.iconst 2, 1) by decide +kernel) (show decode code 1342 = .ok (.iadd, 1) by decide +kernel) (show decode code 1343 = .ok (.iaload, 1) by decide +kernel) ?_
  refine lg_arg 3 C rfl (by omega) (show decode code 1344 = .ok (.aload_n 0, 1) by decide +kernel) (show decode code 1345 = .ok (.iload_n 3, 1) by decide +kernel) (show decode code 1346 = .ok (.iconst 3, 1) by decide +kernel) (show decode code 1347 = .ok (.iadd, 1) by decide +kernel) (show decode code 1348 = .ok (.iaload, 1) by decide +kernel) ?_
  refine lg_call (M := mX12_right) (ci := 12) (N := 69) (T := TX12) (ok_all 60) (by decide) C mt_277 fc_X12_right fi_X12_right rfl lk_2002 lk_2003 lk_2004 fd_X12_right (by decide) (show decode code 1349 = .ok (.invokevirtual 137, 3) by decide +kernel) (vs := [.inl (xs (j + 1)), .inl (xs (j + 2)), .inl (xs (j + 3))]) (rest := []) rfl rfl (Nat.zero_le _) b3 b1 b2 b4 (fun r h2 hr => ?_)
  obtain ⟨⟨y, rfl, -, v, rfl⟩, hJ⟩ := hr
  refine lg_pop C (show decode code 1352 = .ok (.pop, 1) by decide +kernel) ?_
  refine lg_go (t := 1822) C (show decode code 1353 = .ok (.goto 469, 3) by decide +kernel) (by decide) ?_
  exact kk _ _ _ hJ
theorem cs_30 (C : LC p s m meth c b L xs D tys) (hj : j + 6 ≤ L) (hp : aBoth (fun x => ∃ u : Int32, x = .inl u) (fun x y => (∃ u : Int32, x = .inl u) ∧ ∃ u : Int32, y = .inl u) 154 278 [.inl (xs (j + 1)), .inl (xs (j + 2))] J h kc ks) (kk : ∀ h kc ks, J h kc ks → LG p l e s m below meth c b D tys 0 69 j 1822 [] h kc ks) : LG p l e s m below meth c b D tys 0 69 j 1356 [] h kc ks := by
  obtain ⟨mc, ms, fs, a1, a2, a3, a4⟩ := hp
  refine lg_x C (show decode code 1356 = .ok (.aload_n 1, 1) by decide +kernel) ?_
  refine lg_arg 1 C rfl (by omega) (show decode code 1357 = .ok (.aload_n 0, 1) by decide +kernel) (show decode code 1358 = .ok (.iload_n 3, 1) by decide +kernel) (show decode code 1359 = .ok (.iconst 1, 1) by decide +kernel) (show decode code 1360 = .ok (.iadd, 1) by decide +kernel) (show decode code 1361 = .ok (.iaload, 1) by decide +kernel) ?_
  refine lg_arg 2 C rfl (by omega) (show decode code 1362 = .ok (.aload_n 0, 1) by decide +kernel) (show decode code 1363 = .ok (.iload_n 3, 1) by decide +kernel) (show decode code 1364 = .ok (.iconst 2, 1) by decide +kernel) (show decode code 1365 = .ok (.iadd, 1) by decide +kernel) (show decode code 1366 = .ok (.iaload, 1) by decide +kernel) ?_
  refine lg_call (M := mX11_broke) (ci := 11) (N := 8) (T := TX11) (ok_all 60) (by decide) C mt_154 fc_X11_broke fi_X11_broke rfl lk_1277 lk_1278 lk_1279 fd_X11_broke (by decide) (show decode code 1367 = .ok (.invokevirtual 138, 3) by decide +kernel) (vs := [.inl (xs (j + 1)), .inl (xs (j + 2))]) (rest := []) rfl rfl (Nat.zero_le _) a3 a1 a2 a4 (fun r h1 hr => ?_)
  obtain ⟨x, mc2, ms2, gs, rfl, p1, b1, b2, b3, b4⟩ := hr
  obtain ⟨u, rfl⟩ := p1
  refine lg_pop C (show decode code 1370 = .ok (.pop, 1) by decide +kernel) ?_
  refine lg_m C (show decode code 1371 = .ok (.aload_n 2, 1) by decide +kernel) ?_
  refine lg_arg 1 C rfl (by omega) (show decode code 1372 = .ok (.aload_n 0, 1) by decide +kernel) (show decode code 1373 = .ok (.iload_n 3, 1) by decide +kernel) (show decode code 1374 = .ok (.iconst 1, 1) by decide +kernel) (show decode code 1375 = .ok (.iadd, 1) by decide +kernel) (show decode code 1376 = .ok (.iaload, 1) by decide +kernel) ?_
  refine lg_arg 2 C rfl (by omega) (show decode code 1377 = .ok (.aload_n 0, 1) by decide +kernel) (show decode code 1378 = .ok (.iload_n 3, 1) by decide +kernel) (show decode code 1379 = .ok (.iconst 2, 1) by decide +kernel) (show decode code 1380 = .ok (.iadd, 1) by decide +kernel) (show decode code 1381 = .ok (.iaload, 1) by decide +kernel) ?_
  refine lg_call (M := mX12_broke) (ci := 12) (N := 69) (T := TX12) (ok_all 60) (by decide) C mt_278 fc_X12_broke fi_X12_broke rfl lk_2010 lk_2011 lk_2012 fd_X12_broke (by decide) (show decode code 1382 = .ok (.invokevirtual 141, 3) by decide +kernel) (vs := [.inl (xs (j + 1)), .inl (xs (j + 2))]) (rest := []) rfl rfl (Nat.zero_le _) b3 b1 b2 b4 (fun r h2 hr => ?_)
  obtain ⟨⟨y, rfl, -, v, rfl⟩, hJ⟩ := hr
  refine lg_pop C (show decode code 1385 = .ok (.pop, 1) by decide +kernel) ?_
  refine lg_go (t := 1822) C (show decode code 1386 = .ok (.goto 436, 3) by decide +kernel) (by decide) ?_
  exact kk _ _ _ hJ
theorem cs_31 (C : LC p s m meth c b L xs D tys) (hj : j + 6 ≤ L) (hp : aBoth (fun x => ∃ u : Int32, x = .inl u) (fun x y => (∃ u : Int32, x = .inl u) ∧ ∃ u : Int32, y = .inl u) 155 280 [.inl (xs (j + 1))] J h kc ks) (kk : ∀ h kc ks, J h kc ks → LG p l e s m below meth c b D tys 0 69 j 1822 [] h kc ks) : LG p l e s m below meth c b D tys 0 69 j 1389 [] h kc ks := by
  obtain ⟨mc, ms, fs, a1, a2, a3, a4⟩ := hp
  refine lg_x C (show decode code 1389 = .ok (.aload_n 1, 1) by decide +kernel) ?_
  refine lg_arg 1 C rfl (by omega) (show decode code 1390 = .ok (.aload_n 0, 1) by decide +kernel) (show decode code 1391 = .ok (.iload_n 3, 1) by decide +kernel) (show decode code 1392 = .ok (.iconst 1, 1) by decide +kernel) (show decode code 1393 = .ok (.iadd, 1) by decide +kernel) (show decode code 1394 = .ok (.iaload, 1) by decide +kernel) ?_
  refine lg_call (M := mX11_kin) (ci := 11) (N := 8) (T := TX11) (ok_all 60) (by decide) C mt_155 fc_X11_kin fi_X11_kin rfl lk_1289 lk_1290 lk_1291 fd_X11_kin (by decide) (show decode code 1395 = .ok (.invokevirtual 142, 3) by decide +kernel) (vs := [.inl (xs (j + 1))]) (rest := []) rfl rfl (Nat.zero_le _) a3 a1 a2 a4 (fun r h1 hr => ?_)
  obtain ⟨x, mc2, ms2, gs, rfl, p1, b1, b2, b3, b4⟩ := hr
  obtain ⟨u, rfl⟩ := p1
  refine lg_pop C (show decode code 1398 = .ok (.pop, 1) by decide +kernel) ?_
  refine lg_m C (show decode code 1399 = .ok (.aload_n 2, 1) by decide +kernel) ?_
  refine lg_arg 1 C rfl (by omega) (show decode code 1400 = .ok (.aload_n 0, 1) by decide +kernel) (show decode code 1401 = .ok (.iload_n 3, 1) by decide +kernel) (show decode code 1402 = .ok (.iconst 1, 1) by decide +kernel) (show decode code 1403 = .ok (.iadd, 1) by decide +kernel) (show decode code 1404 = .ok (.iaload, 1) by decide +kernel) ?_
  refine lg_call (M := mX12_kin) (ci := 12) (N := 69) (T := TX12) (ok_all 60) (by decide) C mt_280 fc_X12_kin fi_X12_kin rfl lk_2014 lk_2015 lk_2016 fd_X12_kin (by decide) (show decode code 1405 = .ok (.invokevirtual 145, 3) by decide +kernel) (vs := [.inl (xs (j + 1))]) (rest := []) rfl rfl (Nat.zero_le _) b3 b1 b2 b4 (fun r h2 hr => ?_)
  obtain ⟨⟨y, rfl, -, v, rfl⟩, hJ⟩ := hr
  refine lg_pop C (show decode code 1408 = .ok (.pop, 1) by decide +kernel) ?_
  refine lg_go (t := 1822) C (show decode code 1409 = .ok (.goto 413, 3) by decide +kernel) (by decide) ?_
  exact kk _ _ _ hJ
theorem cs_32 (C : LC p s m meth c b L xs D tys) (hj : j + 6 ≤ L) (hp : aBoth (fun x => ∃ u : Int32, x = .inl u) (fun x y => (∃ u : Int32, x = .inl u) ∧ ∃ u : Int32, y = .inl u) 156 282 [.inl (xs (j + 1)), .inl (xs (j + 2)), .inl (xs (j + 3))] J h kc ks) (kk : ∀ h kc ks, J h kc ks → LG p l e s m below meth c b D tys 0 69 j 1822 [] h kc ks) : LG p l e s m below meth c b D tys 0 69 j 1412 [] h kc ks := by
  obtain ⟨mc, ms, fs, a1, a2, a3, a4⟩ := hp
  refine lg_x C (show decode code 1412 = .ok (.aload_n 1, 1) by decide +kernel) ?_
  refine lg_arg 1 C rfl (by omega) (show decode code 1413 = .ok (.aload_n 0, 1) by decide +kernel) (show decode code 1414 = .ok (.iload_n 3, 1) by decide +kernel) (show decode code 1415 = .ok (.iconst 1, 1) by decide +kernel) (show decode code 1416 = .ok (.iadd, 1) by decide +kernel) (show decode code 1417 = .ok (.iaload, 1) by decide +kernel) ?_
  refine lg_arg 2 C rfl (by omega) (show decode code 1418 = .ok (.aload_n 0, 1) by decide +kernel) (show decode code 1419 = .ok (.iload_n 3, 1) by decide +kernel) (show decode code 1420 = .ok (.iconst 2, 1) by decide +kernel) (show decode code 1421 = .ok (.iadd, 1) by decide +kernel) (show decode code 1422 = .ok (.iaload, 1) by decide +kernel) ?_
  refine lg_arg 3 C rfl (by omega) (show decode code 1423 = .ok (.aload_n 0, 1) by decide +kernel) (show decode code 1424 = .ok (.iload_n 3, 1) by decide +kernel) (show decode code 1425 = .ok (.iconst 3, 1) by decide +kernel) (show decode code 1426 = .ok (.iadd, 1) by decide +kernel) (show decode code 1427 = .ok (.iaload, 1) by decide +kernel) ?_
  refine lg_call (M := mX11_next) (ci := 11) (N := 8) (T := TX11) (ok_all 60) (by decide) C mt_156 fc_X11_next fi_X11_next rfl lk_1301 lk_1302 lk_1303 fd_X11_next (by decide) (show decode code 1428 = .ok (.invokevirtual 146, 3) by decide +kernel) (vs := [.inl (xs (j + 1)), .inl (xs (j + 2)), .inl (xs (j + 3))]) (rest := []) rfl rfl (Nat.zero_le _) a3 a1 a2 a4 (fun r h1 hr => ?_)
  obtain ⟨x, mc2, ms2, gs, rfl, p1, b1, b2, b3, b4⟩ := hr
  obtain ⟨u, rfl⟩ := p1
  refine lg_pop C (show decode code 1431 = .ok (.pop, 1) by decide +kernel) ?_
  refine lg_m C (show decode code 1432 = .ok (.aload_n 2, 1) by decide +kernel) ?_
  refine lg_arg 1 C rfl (by omega) (show decode code 1433 = .ok (.aload_n 0, 1) by decide +kernel) (show decode code 1434 = .ok (.iload_n 3, 1) by decide +kernel) (show decode code 1435 = .ok (.iconst 1, 1) by decide +kernel) (show decode code 1436 = .ok (.iadd, 1) by decide +kernel) (show decode code 1437 = .ok (.iaload, 1) by decide +kernel) ?_
  refine lg_arg 2 C rfl (by omega) (show decode code 1438 = .ok (.aload_n 0, 1) by decide +kernel) (show decode code 1439 = .ok (.iload_n 3, 1) by decide +kernel) (show decode code 1440 = .ok (.iconst 2, 1) by decide +kernel) (show decode code 1441 = .ok (.iadd, 1) by decide +kernel) (show decode code 1442 = .ok (.iaload, 1) by decide +kernel) ?_
  refine lg_arg 3 C rfl (by omega) (show decode code 1443 = .ok (.aload_n 0, 1) by decide +kernel) (show decode code 1444 = .ok (.iload_n 3, 1) by decide +kernel) (show decode code 1445 = .ok (.iconst 3, 1) by decide +kernel) (show decode code 1446 = .ok (.iadd, 1) by decide +kernel) (show decode code 1447 = .ok (.iaload, 1) by decide +kernel) ?_
  refine lg_call (M := mX12_next) (ci := 12) (N := 69) (T := TX12) (ok_all 60) (by decide) C mt_282 fc_X12_next fi_X12_next rfl lk_2022 lk_2023 lk_2024 fd_X12_next (by decide) (show decode code 1448 = .ok (.invokevirtual 149, 3) by decide +kernel) (vs := [.inl (xs (j + 1)), .inl (xs (j + 2)), .inl (xs (j + 3))]) (rest := []) rfl rfl (Nat.zero_le _) b3 b1 b2 b4 (fun r h2 hr => ?_)
  obtain ⟨⟨y, rfl, -, v, rfl⟩, hJ⟩ := hr
  refine lg_pop C (show decode code 1451 = .ok (.pop, 1) by decide +kernel) ?_
  refine lg_go (t := 1822) C (show decode code 1452 = .ok (.goto 370, 3) by decide +kernel) (by decide) ?_
  exact kk _ _ _ hJ
theorem cs_33 (C : LC p s m meth c b L xs D tys) (hj : j + 6 ≤ L) (hp : aBoth (fun x => ∃ u : Int32, x = .inl u) (fun x y => (∃ u : Int32, x = .inl u) ∧ ∃ u : Int32, y = .inl u) 157 293 [.inl (xs (j + 1)), .inl (xs (j + 2)), .inl (xs (j + 3))] J h kc ks) (kk : ∀ h kc ks, J h kc ks → LG p l e s m below meth c b D tys 0 69 j 1822 [] h kc ks) : LG p l e s m below meth c b D tys 0 69 j 1455 [] h kc ks := by
  obtain ⟨mc, ms, fs, a1, a2, a3, a4⟩ := hp
  refine lg_x C (show decode code 1455 = .ok (.aload_n 1, 1) by decide +kernel) ?_
  refine lg_arg 1 C rfl (by omega) (show decode code 1456 = .ok (.aload_n 0, 1) by decide +kernel) (show decode code 1457 = .ok (.iload_n 3, 1) by decide +kernel) (show decode code 1458 = .ok (.iconst 1, 1) by decide +kernel) (show decode code 1459 = .ok (.iadd, 1) by decide +kernel) (show decode code 1460 = .ok (.iaload, 1) by decide +kernel) ?_
  refine lg_arg 2 C rfl (by omega) (show decode code 1461 = .ok (.aload_n 0, 1) by decide +kernel) (show decode code 1462 = .ok (.iload_n 3, 1) by decide +kernel) (show decode code 1463 = .ok (.iconst 2, 1) by decide +kernel) (show decode code 1464 = .ok (.iadd, 1) by decide +kernel) (show decode code 1465 = .ok (.iaload, 1) by decide +kernel) ?_
  refine lg_arg 3 C rfl (by omega) (show decode code 1466 = .ok (.aload_n 0, 1) by decide +kernel) (show decode code 1467 = .ok (.iload_n 3, 1) by decide +kernel) (show decode code 1468 = .ok (.iconst 3, 1) by decide +kernel) (show decode code 1469 = .ok (.iadd, 1) by decide +kernel) (show decode code 1470 = .ok (.iaload, 1) by decide +kernel) ?_
  refine lg_call (M := mX11_act) (ci := 11) (N := 8) (T := TX11) (ok_all 60) (by decide) C mt_157 fc_X11_act fi_X11_act rfl lk_1321 lk_1322 lk_1323 fd_X11_act (by decide) (show decode code 1471 = .ok (.invokevirtual 150, 3) by decide +kernel) (vs := [.inl (xs (j + 1)), .inl (xs (j + 2)), .inl (xs (j + 3))]) (rest := []) rfl rfl (Nat.zero_le _) a3 a1 a2 a4 (fun r h1 hr => ?_)
  obtain ⟨x, mc2, ms2, gs, rfl, p1, b1, b2, b3, b4⟩ := hr
  obtain ⟨u, rfl⟩ := p1
  refine lg_pop C (show decode code 1474 = .ok (.pop, 1) by decide +kernel) ?_
  refine lg_m C (show decode code 1475 = .ok (.aload_n 2, 1) by decide +kernel) ?_
  refine lg_arg 1 C rfl (by omega) (show decode code 1476 = .ok (.aload_n 0, 1) by decide +kernel) (show decode code 1477 = .ok (.iload_n 3, 1) by decide +kernel) (show decode code 1478 = .ok (.iconst 1, 1) by decide +kernel) (show decode code 1479 = .ok (.iadd, 1) by decide +kernel) (show decode code 1480 = .ok (.iaload, 1) by decide +kernel) ?_
  refine lg_arg 2 C rfl (by omega) (show decode code 1481 = .ok (.aload_n 0, 1) by decide +kernel) (show decode code 1482 = .ok (.iload_n 3, 1) by decide +kernel) (show decode code 1483 = .ok (.iconst 2, 1) by decide +kernel) (show decode code 1484 = .ok (.iadd, 1) by decide +kernel) (show decode code 1485 = .ok (.iaload, 1) by decide +kernel) ?_
  refine lg_arg 3 C rfl (by omega) (show decode code 1486 = .ok (.aload_n 0, 1) by decide +kernel) (show decode code 1487 = .ok (.iload_n 3, 1) by decide +kernel) (show decode code 1488 = .ok (.iconst 3, 1) by decide +kernel) (show decode code 1489 = .ok (.iadd, 1) by decide +kernel) (show decode code 1490 = .ok (.iaload, 1) by decide +kernel) ?_
  refine lg_call (M := mX12_act) (ci := 12) (N := 69) (T := TX12) (ok_all 60) (by decide) C mt_293 fc_X12_act fi_X12_act rfl lk_2030 lk_2031 lk_2032 fd_X12_act (by decide) (show decode code 1491 = .ok (.invokevirtual 153, 3) by decide +kernel) (vs := [.inl (xs (j + 1)), .inl (xs (j + 2)), .inl (xs (j + 3))]) (rest := []) rfl rfl (Nat.zero_le _) b3 b1 b2 b4 (fun r h2 hr => ?_)
  obtain ⟨⟨y, rfl, -, v, rfl⟩, hJ⟩ := hr
  refine lg_pop C (show decode code 1494 = .ok (.pop, 1) by decide +kernel) ?_
  refine lg_go (t := 1822) C (show decode code 1495 = .ok (.goto 327, 3) by decide +kernel) (by decide) ?_
  exact kk _ _ _ hJ
theorem cs_34 (C : LC p s m meth c b L xs D tys) (hj : j + 6 ≤ L) (hp : aBoth (fun x => ∃ u : Int32, x = .inl u) (fun x y => (∃ u : Int32, x = .inl u) ∧ ∃ u : Int32, y = .inl u) 158 294 [.inl (xs (j + 1))] J h kc ks) (kk : ∀ h kc ks, J h kc ks → LG p l e s m below meth c b D tys 0 69 j 1822 [] h kc ks) : LG p l e s m below meth c b D tys 0 69 j 1498 [] h kc ks := by
  obtain ⟨mc, ms, fs, a1, a2, a3, a4⟩ := hp
  refine lg_x C (show decode code 1498 = .ok (.aload_n 1, 1) by decide +kernel) ?_
  refine lg_arg 1 C rfl (by omega) (show decode code 1499 = .ok (.aload_n 0, 1) by decide +kernel) (show decode code 1500 = .ok (.iload_n 3, 1) by decide +kernel) (show decode code 1501 = .ok (.iconst 1, 1) by decide +kernel) (show decode code 1502 = .ok (.iadd, 1) by decide +kernel) (show decode code 1503 = .ok (.iaload, 1) by decide +kernel) ?_
  refine lg_call (M := mX11_trace) (ci := 11) (N := 8) (T := TX11) (ok_all 60) (by decide) C mt_158 fc_X11_trace fi_X11_trace rfl lk_1349 lk_1350 lk_1351 fd_X11_trace (by decide) (show decode code 1504 = .ok (.invokevirtual 154, 3) by decide +kernel) (vs := [.inl (xs (j + 1))]) (rest := []) rfl rfl (Nat.zero_le _) a3 a1 a2 a4 (fun r h1 hr => ?_)
  obtain ⟨x, mc2, ms2, gs, rfl, p1, b1, b2, b3, b4⟩ := hr
  obtain ⟨u, rfl⟩ := p1
  refine lg_pop C (show decode code 1507 = .ok (.pop, 1) by decide +kernel) ?_
  refine lg_m C (show decode code 1508 = .ok (.aload_n 2, 1) by decide +kernel) ?_
  refine lg_arg 1 C rfl (by omega) (show decode code 1509 = .ok (.aload_n 0, 1) by decide +kernel) (show decode code 1510 = .ok (.iload_n 3, 1) by decide +kernel) (show decode code 1511 = .ok (.iconst 1, 1) by decide +kernel) (show decode code 1512 = .ok (.iadd, 1) by decide +kernel) (show decode code 1513 = .ok (.iaload, 1) by decide +kernel) ?_
  refine lg_call (M := mX12_trace) (ci := 12) (N := 69) (T := TX12) (ok_all 60) (by decide) C mt_294 fc_X12_trace fi_X12_trace rfl lk_2074 lk_2075 lk_2076 fd_X12_trace (by decide) (show decode code 1514 = .ok (.invokevirtual 157, 3) by decide +kernel) (vs := [.inl (xs (j + 1))]) (rest := []) rfl rfl (Nat.zero_le _) b3 b1 b2 b4 (fun r h2 hr => ?_)
  obtain ⟨⟨y, rfl, -, v, rfl⟩, hJ⟩ := hr
  refine lg_pop C (show decode code 1517 = .ok (.pop, 1) by decide +kernel) ?_
  refine lg_go (t := 1822) C (show decode code 1518 = .ok (.goto 304, 3) by decide +kernel) (by decide) ?_
  exact kk _ _ _ hJ
theorem cs_35 (C : LC p s m meth c b L xs D tys) (hj : j + 6 ≤ L) (hp : aBoth (fun x => ∃ u : Int32, x = .inl u) (fun x y => (∃ u : Int32, x = .inl u) ∧ ∃ u : Int32, y = .inl u) 159 297 [.inl (xs (j + 1)), .inl (xs (j + 2))] J h kc ks) (kk : ∀ h kc ks, J h kc ks → LG p l e s m below meth c b D tys 0 69 j 1822 [] h kc ks) : LG p l e s m below meth c b D tys 0 69 j 1521 [] h kc ks := by
  obtain ⟨mc, ms, fs, a1, a2, a3, a4⟩ := hp
  refine lg_x C (show decode code 1521 = .ok (.aload_n 1, 1) by decide +kernel) ?_
  refine lg_arg 1 C rfl (by omega) (show decode code 1522 = .ok (.aload_n 0, 1) by decide +kernel) (show decode code 1523 = .ok (.iload_n 3, 1) by decide +kernel) (show decode code 1524 = .ok (.iconst 1, 1) by decide +kernel) (show decode code 1525 = .ok (.iadd, 1) by decide +kernel) (show decode code 1526 = .ok (.iaload, 1) by decide +kernel) ?_
  refine lg_arg 2 C rfl (by omega) (show decode code 1527 = .ok (.aload_n 0, 1) by decide +kernel) (show decode code 1528 = .ok (.iload_n 3, 1) by decide +kernel) (show decode code 1529 = .ok (.iconst 2, 1) by decide +kernel) (show decode code 1530 = .ok (.iadd, 1) by decide +kernel) (show decode code 1531 = .ok (.iaload, 1) by decide +kernel) ?_
  refine lg_call (M := mX11_keep) (ci := 11) (N := 8) (T := TX11) (ok_all 60) (by decide) C mt_159 fc_X11_keep fi_X11_keep rfl lk_1357 lk_1358 lk_1359 fd_X11_keep (by decide) (show decode code 1532 = .ok (.invokevirtual 158, 3) by decide +kernel) (vs := [.inl (xs (j + 1)), .inl (xs (j + 2))]) (rest := []) rfl rfl (Nat.zero_le _) a3 a1 a2 a4 (fun r h1 hr => ?_)
  obtain ⟨x, mc2, ms2, gs, rfl, p1, b1, b2, b3, b4⟩ := hr
  obtain ⟨u, rfl⟩ := p1
  refine lg_pop C (show decode code 1535 = .ok (.pop, 1) by decide +kernel) ?_
  refine lg_m C (show decode code 1536 = .ok (.aload_n 2, 1) by decide +kernel) ?_
  refine lg_arg 1 C rfl (by omega) (show decode code 1537 = .ok (.aload_n 0, 1) by decide +kernel) (show decode code 1538 = .ok (.iload_n 3, 1) by decide +kernel) (show decode code 1539 = .ok (.iconst 1, 1) by decide +kernel) (show decode code 1540 = .ok (.iadd, 1) by decide +kernel) (show decode code 1541 = .ok (.iaload, 1) by decide +kernel) ?_
  refine lg_arg 2 C rfl (by omega) (show decode code 1542 = .ok (.aload_n 0, 1) by decide +kernel) (show decode code 1543 = .ok (.iload_n 3, 1) by decide +kernel) (show decode code 1544 = .ok (.iconst 2, 1) by decide +kernel) (show decode code 1545 = .ok (.iadd, 1) by decide +kernel) (show decode code 1546 = .ok (.iaload, 1) by decide +kernel) ?_
  refine lg_call (M := mX12_keep) (ci := 12) (N := 69) (T := TX12) (ok_all 60) (by decide) C mt_297 fc_X12_keep fi_X12_keep rfl lk_2082 lk_2083 lk_2084 fd_X12_keep (by decide) (show decode code 1547 = .ok (.invokevirtual 161, 3) by decide +kernel) (vs := [.inl (xs (j + 1)), .inl (xs (j + 2))]) (rest := []) rfl rfl (Nat.zero_le _) b3 b1 b2 b4 (fun r h2 hr => ?_)
  obtain ⟨⟨y, rfl, -, v, rfl⟩, hJ⟩ := hr
  refine lg_pop C (show decode code 1550 = .ok (.pop, 1) by decide +kernel) ?_
  refine lg_go (t := 1822) C (show decode code 1551 = .ok (.goto 271, 3) by decide +kernel) (by decide) ?_
  exact kk _ _ _ hJ
theorem cs_36 (C : LC p s m meth c b L xs D tys) (hj : j + 6 ≤ L) (hp : aBoth (fun x => ∃ u : Int32, x = .inl u) (fun x y => (∃ u : Int32, x = .inl u) ∧ ∃ u : Int32, y = .inl u) 160 298 [.inl (xs (j + 1)), .inl (xs (j + 2)), .inl (xs (j + 3))] J h kc ks) (kk : ∀ h kc ks, J h kc ks → LG p l e s m below meth c b D tys 0 69 j 1822 [] h kc ks) : LG p l e s m below meth c b D tys 0 69 j 1554 [] h kc ks := by
  obtain ⟨mc, ms, fs, a1, a2, a3, a4⟩ := hp
  refine lg_x C (show decode code 1554 = .ok (.aload_n 1, 1) by decide +kernel) ?_
  refine lg_arg 1 C rfl (by omega) (show decode code 1555 = .ok (.aload_n 0, 1) by decide +kernel) (show decode code 1556 = .ok (.iload_n 3, 1) by decide +kernel) (show decode code 1557 = .ok (.iconst 1, 1) by decide +kernel) (show decode code 1558 = .ok (.iadd, 1) by decide +kernel) (show decode code 1559 = .ok (.iaload, 1) by decide +kernel) ?_
  refine lg_arg 2 C rfl (by omega) (show decode code 1560 = .ok (.aload_n 0, 1) by decide +kernel) (show decode code 1561 = .ok (.iload_n 3, 1) by decide +kernel) (show decode code 1562 = .ok (.iconst 2, 1) by decide +kernel) (show decode code 1563 = .ok (.iadd, 1) by decide +kernel) (show decode code 1564 = .ok (.iaload, 1) by decide +kernel) ?_
  refine lg_arg 3 C rfl (by omega) (show decode code 1565 = .ok (.aload_n 0, 1) by decide +kernel) (show decode code 1566 = .ok (.iload_n 3, 1) by decide +kernel) (show decode code 1567 = .ok (.iconst 3, 1) by decide +kernel) (show decode code 1568 = .ok (.iadd, 1) by decide +kernel) (show decode code 1569 = .ok (.iaload, 1) by decide +kernel) ?_
  refine lg_call (M := mX11_row) (ci := 11) (N := 8) (T := TX11) (ok_all 60) (by decide) C mt_160 fc_X11_row fi_X11_row rfl lk_1369 lk_1370 lk_1371 fd_X11_row (by decide) (show decode code 1570 = .ok (.invokevirtual 162, 3) by decide +kernel) (vs := [.inl (xs (j + 1)), .inl (xs (j + 2)), .inl (xs (j + 3))]) (rest := []) rfl rfl (Nat.zero_le _) a3 a1 a2 a4 (fun r h1 hr => ?_)
  obtain ⟨x, mc2, ms2, gs, rfl, p1, b1, b2, b3, b4⟩ := hr
  obtain ⟨u, rfl⟩ := p1
  refine lg_pop C (show decode code 1573 = .ok (.pop, 1) by decide +kernel) ?_
  refine lg_m C (show decode code 1574 = .ok (.aload_n 2, 1) by decide +kernel) ?_
  refine lg_arg 1 C rfl (by omega) (show decode code 1575 = .ok (.aload_n 0, 1) by decide +kernel) (show decode code 1576 = .ok (.iload_n 3, 1) by decide +kernel) (show decode code 1577 = .ok (.iconst 1, 1) by decide +kernel) (show decode code 1578 = .ok (.iadd, 1) by decide +kernel) (show decode code 1579 = .ok (.iaload, 1) by decide +kernel) ?_
  refine lg_arg 2 C rfl (by omega) (show decode code 1580 = .ok (.aload_n 0, 1) by decide +kernel) (show decode code 1581 = .ok (.iload_n 3, 1) by decide +kernel) (show decode code 1582 = .ok (.iconst 2, 1) by decide +kernel) (show decode code 1583 = .ok (.iadd, 1) by decide +kernel) (show decode code 1584 = .ok (.iaload, 1) by decide +kernel) ?_
  refine lg_arg 3 C rfl (by omega) (show decode code 1585 = .ok (.aload_n 0, 1) by decide +kernel) (show decode code 1586 = .ok (.iload_n 3, 1) by decide +kernel) (show decode code 1587 = .ok (.iconst 3, 1) by decide +kernel) (show decode code 1588 = .ok (.iadd, 1) by decide +kernel) (show decode code 1589 = .ok (.iaload, 1) by decide +kernel) ?_
  refine lg_call (M := mX12_row) (ci := 12) (N := 69) (T := TX12) (ok_all 60) (by decide) C mt_298 fc_X12_row fi_X12_row rfl lk_2086 lk_2087 lk_2088 fd_X12_row (by decide) (show decode code 1590 = .ok (.invokevirtual 165, 3) by decide +kernel) (vs := [.inl (xs (j + 1)), .inl (xs (j + 2)), .inl (xs (j + 3))]) (rest := []) rfl rfl (Nat.zero_le _) b3 b1 b2 b4 (fun r h2 hr => ?_)
  obtain ⟨⟨y, rfl, -, v, rfl⟩, hJ⟩ := hr
  refine lg_pop C (show decode code 1593 = .ok (.pop, 1) by decide +kernel) ?_
  refine lg_go (t := 1822) C (show decode code 1594 = .ok (.goto 228, 3) by decide +kernel) (by decide) ?_
  exact kk _ _ _ hJ
theorem cs_37 (C : LC p s m meth c b L xs D tys) (hj : j + 6 ≤ L) (hp : aBoth (fun x => ∃ u : Int32, x = .inl u) (fun x y => (∃ u : Int32, x = .inl u) ∧ ∃ u : Int32, y = .inl u) 161 300 [.inl (xs (j + 1)), .inl (xs (j + 2)), .inr (.inl (((xs (j + 3)).toInt64 <<< ((32 : Int32).toInt64 &&& 63)) ||| ((xs (j + 4)).toInt64 &&& 4294967295)))] J h kc ks) (kk : ∀ h kc ks, J h kc ks → LG p l e s m below meth c b D tys 0 69 j 1822 [] h kc ks) : LG p l e s m below meth c b D tys 0 69 j 1597 [] h kc ks := by
  obtain ⟨mc, ms, fs, a1, a2, a3, a4⟩ := hp
  refine lg_x C (show decode code 1597 = .ok (.aload_n 1, 1) by decide +kernel) ?_
  refine lg_arg 1 C rfl (by omega) (show decode code 1598 = .ok (.aload_n 0, 1) by decide +kernel) (show decode code 1599 = .ok (.iload_n 3, 1) by decide +kernel) (show decode code 1600 = .ok (.iconst 1, 1) by decide +kernel) (show decode code 1601 = .ok (.iadd, 1) by decide +kernel) (show decode code 1602 = .ok (.iaload, 1) by decide +kernel) ?_
  refine lg_arg 2 C rfl (by omega) (show decode code 1603 = .ok (.aload_n 0, 1) by decide +kernel) (show decode code 1604 = .ok (.iload_n 3, 1) by decide +kernel) (show decode code 1605 = .ok (.iconst 2, 1) by decide +kernel) (show decode code 1606 = .ok (.iadd, 1) by decide +kernel) (show decode code 1607 = .ok (.iaload, 1) by decide +kernel) ?_
  refine lg_arg 3 C rfl (by omega) (show decode code 1608 = .ok (.aload_n 0, 1) by decide +kernel) (show decode code 1609 = .ok (.iload_n 3, 1) by decide +kernel) (show decode code 1610 = .ok (.iconst 3, 1) by decide +kernel) (show decode code 1611 = .ok (.iadd, 1) by decide +kernel) (show decode code 1612 = .ok (.iaload, 1) by decide +kernel) ?_
  refine lg_i2l (show decode code 1613 = .ok (.i2l, 1) by decide +kernel) C ?_
  refine lg_bip (v := 32) (by decide) (show decode code 1614 = .ok (.bipush 32, 2) by decide +kernel) C ?_
  refine lg_shl (show decode code 1616 = .ok (.lshl, 1) by decide +kernel) C ?_
  refine lg_arg 4 C rfl (by omega) (show decode code 1617 = .ok (.aload_n 0, 1) by decide +kernel) (show decode code 1618 = .ok (.iload_n 3, 1) by decide +kernel) (show decode code 1619 = .ok (.iconst 4, 1) by decide +kernel) (show decode code 1620 = .ok (.iadd, 1) by decide +kernel) (show decode code 1621 = .ok (.iaload, 1) by decide +kernel) ?_
  refine lg_i2l (show decode code 1622 = .ok (.i2l, 1) by decide +kernel) C ?_
  refine lg_ldc2 (v := 4294967295) lk_2114 (show decode code 1623 = .ok (.ldc2_w 166, 3) by decide +kernel) C ?_
  refine lg_land (show decode code 1626 = .ok (.land, 1) by decide +kernel) C ?_
  refine lg_lor (show decode code 1627 = .ok (.lor, 1) by decide +kernel) C ?_
  refine lg_call (M := mX11_put) (ci := 11) (N := 8) (T := TX11) (ok_all 60) (by decide) C mt_161 fc_X11_put fi_X11_put rfl lk_1378 lk_1379 lk_1380 fd_X11_put (by decide) (show decode code 1628 = .ok (.invokevirtual 168, 3) by decide +kernel) (vs := [.inl (xs (j + 1)), .inl (xs (j + 2)), .inr (.inl (((xs (j + 3)).toInt64 <<< ((32 : Int32).toInt64 &&& 63)) ||| ((xs (j + 4)).toInt64 &&& 4294967295)))]) (rest := []) rfl rfl (Nat.zero_le _) a3 a1 a2 a4 (fun r h1 hr => ?_)
  obtain ⟨x, mc2, ms2, gs, rfl, p1, b1, b2, b3, b4⟩ := hr
  obtain ⟨u, rfl⟩ := p1
  refine lg_pop C (show decode code 1631 = .ok (.pop, 1) by decide +kernel) ?_
  refine lg_m C (show decode code 1632 = .ok (.aload_n 2, 1) by decide +kernel) ?_
  refine lg_arg 1 C rfl (by omega) (show decode code 1633 = .ok (.aload_n 0, 1) by decide +kernel) (show decode code 1634 = .ok (.iload_n 3, 1) by decide +kernel) (show decode code 1635 = .ok (.iconst 1, 1) by decide +kernel) (show decode code 1636 = .ok (.iadd, 1) by decide +kernel) (show decode code 1637 = .ok (.iaload, 1) by decide +kernel) ?_
  refine lg_arg 2 C rfl (by omega) (show decode code 1638 = .ok (.aload_n 0, 1) by decide +kernel) (show decode code 1639 = .ok (.iload_n 3, 1) by decide +kernel) (show decode code 1640 = .ok (.iconst 2, 1) by decide +kernel) (show decode code 1641 = .ok (.iadd, 1) by decide +kernel) (show decode code 1642 = .ok (.iaload, 1) by decide +kernel) ?_
  refine lg_arg 3 C rfl (by omega) (show decode code 1643 = .ok (.aload_n 0, 1) by decide +kernel) (show decode code 1644 = .ok (.iload_n 3, 1) by decide +kernel) (show decode code 1645 = .ok (.iconst 3, 1) by decide +kernel) (show decode code 1646 = .ok (.iadd, 1) by decide +kernel) (show decode code 1647 = .ok (.iaload, 1) by decide +kernel) ?_
  refine lg_i2l (show decode code 1648 = .ok (.i2l, 1) by decide +kernel) C ?_
  refine lg_bip (v := 32) (by decide) (show decode code 1649 = .ok (.bipush 32, 2) by decide +kernel) C ?_
  refine lg_shl (show decode code 1651 = .ok (.lshl, 1) by decide +kernel) C ?_
  refine lg_arg 4 C rfl (by omega) (show decode code 1652 = .ok (.aload_n 0, 1) by decide +kernel) (show decode code 1653 = .ok (.iload_n 3, 1) by decide +kernel) (show decode code 1654 = .ok (.iconst 4, 1) by decide +kernel) (show decode code 1655 = .ok (.iadd, 1) by decide +kernel) (show decode code 1656 = .ok (.iaload, 1) by decide +kernel) ?_
  refine lg_i2l (show decode code 1657 = .ok (.i2l, 1) by decide +kernel) C ?_
  refine lg_ldc2 (v := 4294967295) lk_2114 (show decode code 1658 = .ok (.ldc2_w 166, 3) by decide +kernel) C ?_
  refine lg_land (show decode code 1661 = .ok (.land, 1) by decide +kernel) C ?_
  refine lg_lor (show decode code 1662 = .ok (.lor, 1) by decide +kernel) C ?_
  refine lg_call (M := mX12_put) (ci := 12) (N := 69) (T := TX12) (ok_all 60) (by decide) C mt_300 fc_X12_put fi_X12_put rfl lk_2090 lk_2091 lk_2092 fd_X12_put (by decide) (show decode code 1663 = .ok (.invokevirtual 172, 3) by decide +kernel) (vs := [.inl (xs (j + 1)), .inl (xs (j + 2)), .inr (.inl (((xs (j + 3)).toInt64 <<< ((32 : Int32).toInt64 &&& 63)) ||| ((xs (j + 4)).toInt64 &&& 4294967295)))]) (rest := []) rfl rfl (Nat.zero_le _) b3 b1 b2 b4 (fun r h2 hr => ?_)
  obtain ⟨⟨y, rfl, -, v, rfl⟩, hJ⟩ := hr
  refine lg_pop C (show decode code 1666 = .ok (.pop, 1) by decide +kernel) ?_
  refine lg_go (t := 1822) C (show decode code 1667 = .ok (.goto 155, 3) by decide +kernel) (by decide) ?_
  exact kk _ _ _ hJ
theorem cs_38 (C : LC p s m meth c b L xs D tys) (hj : j + 6 ≤ L) (hp : aBoth (fun x => ∃ u : Int64, x = .inr (.inl u)) (fun x y => (∃ u : Int64, x = .inr (.inl u)) ∧ ∃ u : Int64, y = .inr (.inl u)) 162 301 [.inl (xs (j + 1)), .inl (xs (j + 2))] J h kc ks) (kk : ∀ h kc ks, J h kc ks → LG p l e s m below meth c b D tys 0 69 j 1822 [] h kc ks) : LG p l e s m below meth c b D tys 0 69 j 1670 [] h kc ks := by
  obtain ⟨mc, ms, fs, a1, a2, a3, a4⟩ := hp
  refine lg_x C (show decode code 1670 = .ok (.aload_n 1, 1) by decide +kernel) ?_
  refine lg_arg 1 C rfl (by omega) (show decode code 1671 = .ok (.aload_n 0, 1) by decide +kernel) (show decode code 1672 = .ok (.iload_n 3, 1) by decide +kernel) (show decode code 1673 = .ok (.iconst 1, 1) by decide +kernel) (show decode code 1674 = .ok (.iadd, 1) by decide +kernel) (show decode code 1675 = .ok (.iaload, 1) by decide +kernel) ?_
  refine lg_arg 2 C rfl (by omega) (show decode code 1676 = .ok (.aload_n 0, 1) by decide +kernel) (show decode code 1677 = .ok (.iload_n 3, 1) by decide +kernel) (show decode code 1678 = .ok (.iconst 2, 1) by decide +kernel) (show decode code 1679 = .ok (.iadd, 1) by decide +kernel) (show decode code 1680 = .ok (.iaload, 1) by decide +kernel) ?_
  refine lg_call (M := mX11_element) (ci := 11) (N := 8) (T := TX11) (ok_all 60) (by decide) C mt_162 fc_X11_element fi_X11_element rfl lk_1390 lk_1391 lk_1392 fd_X11_element (by decide) (show decode code 1681 = .ok (.invokevirtual 173, 3) by decide +kernel) (vs := [.inl (xs (j + 1)), .inl (xs (j + 2))]) (rest := []) rfl rfl (Nat.zero_le _) a3 a1 a2 a4 (fun r h1 hr => ?_)
  obtain ⟨x, mc2, ms2, gs, rfl, p1, b1, b2, b3, b4⟩ := hr
  obtain ⟨u, rfl⟩ := p1
  refine lg_pop2 C (show decode code 1684 = .ok (.pop2, 1) by decide +kernel) ?_
  refine lg_m C (show decode code 1685 = .ok (.aload_n 2, 1) by decide +kernel) ?_
  refine lg_arg 1 C rfl (by omega) (show decode code 1686 = .ok (.aload_n 0, 1) by decide +kernel) (show decode code 1687 = .ok (.iload_n 3, 1) by decide +kernel) (show decode code 1688 = .ok (.iconst 1, 1) by decide +kernel) (show decode code 1689 = .ok (.iadd, 1) by decide +kernel) (show decode code 1690 = .ok (.iaload, 1) by decide +kernel) ?_
  refine lg_arg 2 C rfl (by omega) (show decode code 1691 = .ok (.aload_n 0, 1) by decide +kernel) (show decode code 1692 = .ok (.iload_n 3, 1) by decide +kernel) (show decode code 1693 = .ok (.iconst 2, 1) by decide +kernel) (show decode code 1694 = .ok (.iadd, 1) by decide +kernel) (show decode code 1695 = .ok (.iaload, 1) by decide +kernel) ?_
  refine lg_call (M := mX12_element) (ci := 12) (N := 69) (T := TX12) (ok_all 60) (by decide) C mt_301 fc_X12_element fi_X12_element rfl lk_2098 lk_2099 lk_2100 fd_X12_element (by decide) (show decode code 1696 = .ok (.invokevirtual 177, 3) by decide +kernel) (vs := [.inl (xs (j + 1)), .inl (xs (j + 2))]) (rest := []) rfl rfl (Nat.zero_le _) b3 b1 b2 b4 (fun r h2 hr => ?_)
  obtain ⟨⟨y, rfl, -, v, rfl⟩, hJ⟩ := hr
  refine lg_pop2 C (show decode code 1699 = .ok (.pop2, 1) by decide +kernel) ?_
  refine lg_go (t := 1822) C (show decode code 1700 = .ok (.goto 122, 3) by decide +kernel) (by decide) ?_
  exact kk _ _ _ hJ
theorem cs_39 (C : LC p s m meth c b L xs D tys) (hj : j + 6 ≤ L) (hp : aBoth (fun x => ∃ u : Int32, x = .inl u) (fun x y => (∃ u : Int32, x = .inl u) ∧ ∃ u : Int32, y = .inl u) 163 302 [.inl (xs (j + 1)), .inl (xs (j + 2)), .inl (xs (j + 3)), .inl (xs (j + 4)), .inl (xs (j + 5))] J h kc ks) (kk : ∀ h kc ks, J h kc ks → LG p l e s m below meth c b D tys 0 69 j 1822 [] h kc ks) : LG p l e s m below meth c b D tys 0 69 j 1703 [] h kc ks := by
  obtain ⟨mc, ms, fs, a1, a2, a3, a4⟩ := hp
  refine lg_x C (show decode code 1703 = .ok (.aload_n 1, 1) by decide +kernel) ?_
  refine lg_arg 1 C rfl (by omega) (show decode code 1704 = .ok (.aload_n 0, 1) by decide +kernel) (show decode code 1705 = .ok (.iload_n 3, 1) by decide +kernel) (show decode code 1706 = .ok (.iconst 1, 1) by decide +kernel) (show decode code 1707 = .ok (.iadd, 1) by decide +kernel) (show decode code 1708 = .ok (.iaload, 1) by decide +kernel) ?_
  refine lg_arg 2 C rfl (by omega) (show decode code 1709 = .ok (.aload_n 0, 1) by decide +kernel) (show decode code 1710 = .ok (.iload_n 3, 1) by decide +kernel) (show decode code 1711 = .ok (.iconst 2, 1) by decide +kernel) (show decode code 1712 = .ok (.iadd, 1) by decide +kernel) (show decode code 1713 = .ok (.iaload, 1) by decide +kernel) ?_
  refine lg_arg 3 C rfl (by omega) (show decode code 1714 = .ok (.aload_n 0, 1) by decide +kernel) (show decode code 1715 = .ok (.iload_n 3, 1) by decide +kernel) (show decode code 1716 = .ok (.iconst 3, 1) by decide +kernel) (show decode code 1717 = .ok (.iadd, 1) by decide +kernel) (show decode code 1718 = .ok (.iaload, 1) by decide +kernel) ?_
  refine lg_arg 4 C rfl (by omega) (show decode code 1719 = .ok (.aload_n 0, 1) by decide +kernel) (show decode code 1720 = .ok (.iload_n 3, 1) by decide +kernel) (show decode code 1721 = .ok (.iconst 4, 1) by decide +kernel) (show decode code 1722 = .ok (.iadd, 1) by decide +kernel) (show decode code 1723 = .ok (.iaload, 1) by decide +kernel) ?_
  refine lg_arg 5 C rfl (by omega) (show decode code 1724 = .ok (.aload_n 0, 1) by decide +kernel) (show decode code 1725 = .ok (.iload_n 3, 1) by decide +kernel) (show decode code 1726 = .ok (.iconst 5, 1) by decide +kernel) (show decode code 1727 = .ok (.iadd, 1) by decide +kernel) (show decode code 1728 = .ok (.iaload, 1) by decide +kernel) ?_
  refine lg_call (M := mX11_shift) (ci := 11) (N := 8) (T := TX11) (ok_all 60) (by decide) C mt_163 fc_X11_shift fi_X11_shift rfl lk_1395 lk_1396 lk_1397 fd_X11_shift (by decide) (show decode code 1729 = .ok (.invokevirtual 178, 3) by decide +kernel) (vs := [.inl (xs (j + 1)), .inl (xs (j + 2)), .inl (xs (j + 3)), .inl (xs (j + 4)), .inl (xs (j + 5))]) (rest := []) rfl rfl (Nat.zero_le _) a3 a1 a2 a4 (fun r h1 hr => ?_)
  obtain ⟨x, mc2, ms2, gs, rfl, p1, b1, b2, b3, b4⟩ := hr
  obtain ⟨u, rfl⟩ := p1
  refine lg_pop C (show decode code 1732 = .ok (.pop, 1) by decide +kernel) ?_
  refine lg_m C (show decode code 1733 = .ok (.aload_n 2, 1) by decide +kernel) ?_
  refine lg_arg 1 C rfl (by omega) (show decode code 1734 = .ok (.aload_n 0, 1) by decide +kernel) (show decode code 1735 = .ok (.iload_n 3, 1) by decide +kernel) (show decode code 1736 = .ok (.iconst 1, 1) by decide +kernel) (show decode code 1737 = .ok (.iadd, 1) by decide +kernel) (show decode code 1738 = .ok (.iaload, 1) by decide +kernel) ?_
  refine lg_arg 2 C rfl (by omega) (show decode code 1739 = .ok (.aload_n 0, 1) by decide +kernel) (show decode code 1740 = .ok (.iload_n 3, 1) by decide +kernel) (show decode code 1741 = .ok (.iconst 2, 1) by decide +kernel) (show decode code 1742 = .ok (.iadd, 1) by decide +kernel) (show decode code 1743 = .ok (.iaload, 1) by decide +kernel) ?_
  refine lg_arg 3 C rfl (by omega) (show decode code 1744 = .ok (.aload_n 0, 1) by decide +kernel) (show decode code 1745 = .ok (.iload_n 3, 1) by decide +kernel) (show decode code 1746 = .ok (.iconst 3, 1) by decide +kernel) (show decode code 1747 = .ok (.iadd, 1) by decide +kernel) (show decode code 1748 = .ok (.iaload, 1) by decide +kernel) ?_
  refine lg_arg 4 C rfl (by omega) (show decode code 1749 = .ok (.aload_n 0, 1) by decide +kernel) (show decode code 1750 = .ok (.iload_n 3, 1) by decide +kernel) (show decode code 1751 = .ok (.iconst 4, 1) by decide +kernel) (show decode code 1752 = .ok (.iadd, 1) by decide +kernel) (show decode code 1753 = .ok (.iaload, 1) by decide +kernel) ?_
  refine lg_arg 5 C rfl (by omega) (show decode code 1754 = .ok (.aload_n 0, 1) by decide +kernel) (show decode code 1755 = .ok (.iload_n 3, 1) by decide +kernel) (show decode code 1756 = .ok (.iconst 5, 1) by decide +kernel) (show decode code 1757 = .ok (.iadd, 1) by decide +kernel) (show decode code 1758 = .ok (.iaload, 1) by decide +kernel) ?_
  refine lg_call (M := mX12_shift) (ci := 12) (N := 69) (T := TX12) (ok_all 60) (by decide) C mt_302 fc_X12_shift fi_X12_shift rfl lk_2103 lk_2104 lk_2105 fd_X12_shift (by decide) (show decode code 1759 = .ok (.invokevirtual 182, 3) by decide +kernel) (vs := [.inl (xs (j + 1)), .inl (xs (j + 2)), .inl (xs (j + 3)), .inl (xs (j + 4)), .inl (xs (j + 5))]) (rest := []) rfl rfl (Nat.zero_le _) b3 b1 b2 b4 (fun r h2 hr => ?_)
  obtain ⟨⟨y, rfl, -, v, rfl⟩, hJ⟩ := hr
  refine lg_pop C (show decode code 1762 = .ok (.pop, 1) by decide +kernel) ?_
  refine lg_go (t := 1822) C (show decode code 1763 = .ok (.goto 59, 3) by decide +kernel) (by decide) ?_
  exact kk _ _ _ hJ
theorem cs_40 (C : LC p s m meth c b L xs D tys) (hj : j + 6 ≤ L) (hp : aBoth (fun x => ∃ u : Int32, x = .inl u) (fun x y => (∃ u : Int32, x = .inl u) ∧ ∃ u : Int32, y = .inl u) 164 303 [.inl (xs (j + 1)), .inl (xs (j + 2))] J h kc ks) (kk : ∀ h kc ks, J h kc ks → LG p l e s m below meth c b D tys 0 69 j 1822 [] h kc ks) : LG p l e s m below meth c b D tys 0 69 j 1766 [] h kc ks := by
  obtain ⟨mc, ms, fs, a1, a2, a3, a4⟩ := hp
  refine lg_x C (show decode code 1766 = .ok (.aload_n 1, 1) by decide +kernel) ?_
  refine lg_arg 1 C rfl (by omega) (show decode code 1767 = .ok (.aload_n 0, 1) by decide +kernel) (show decode code 1768 = .ok (.iload_n 3, 1) by decide +kernel) (show decode code 1769 = .ok (.iconst 1, 1) by decide +kernel) (show decode code 1770 = .ok (.iadd, 1) by decide +kernel) (show decode code 1771 = .ok (.iaload, 1) by decide +kernel) ?_
  refine lg_arg 2 C rfl (by omega) (show decode code 1772 = .ok (.aload_n 0, 1) by decide +kernel) (show decode code 1773 = .ok (.iload_n 3, 1) by decide +kernel) (show decode code 1774 = .ok (.iconst 2, 1) by decide +kernel) (show decode code 1775 = .ok (.iadd, 1) by decide +kernel) (show decode code 1776 = .ok (.iaload, 1) by decide +kernel) ?_
  refine lg_call (M := mX11_taken) (ci := 11) (N := 8) (T := TX11) (ok_all 60) (by decide) C mt_164 fc_X11_taken fi_X11_taken rfl lk_1409 lk_1410 lk_1411 fd_X11_taken (by decide) (show decode code 1777 = .ok (.invokevirtual 183, 3) by decide +kernel) (vs := [.inl (xs (j + 1)), .inl (xs (j + 2))]) (rest := []) rfl rfl (Nat.zero_le _) a3 a1 a2 a4 (fun r h1 hr => ?_)
  obtain ⟨x, mc2, ms2, gs, rfl, p1, b1, b2, b3, b4⟩ := hr
  obtain ⟨u, rfl⟩ := p1
  refine lg_pop C (show decode code 1780 = .ok (.pop, 1) by decide +kernel) ?_
  refine lg_m C (show decode code 1781 = .ok (.aload_n 2, 1) by decide +kernel) ?_
  refine lg_arg 1 C rfl (by omega) (show decode code 1782 = .ok (.aload_n 0, 1) by decide +kernel) (show decode code 1783 = .ok (.iload_n 3, 1) by decide +kernel) (show decode code 1784 = .ok (.iconst 1, 1) by decide +kernel) (show decode code 1785 = .ok (.iadd, 1) by decide +kernel) (show decode code 1786 = .ok (.iaload, 1) by decide +kernel) ?_
  refine lg_arg 2 C rfl (by omega) (show decode code 1787 = .ok (.aload_n 0, 1) by decide +kernel) (show decode code 1788 = .ok (.iload_n 3, 1) by decide +kernel) (show decode code 1789 = .ok (.iconst 2, 1) by decide +kernel) (show decode code 1790 = .ok (.iadd, 1) by decide +kernel) (show decode code 1791 = .ok (.iaload, 1) by decide +kernel) ?_
  refine lg_call (M := mX12_taken) (ci := 12) (N := 69) (T := TX12) (ok_all 60) (by decide) C mt_303 fc_X12_taken fi_X12_taken rfl lk_2107 lk_2108 lk_2109 fd_X12_taken (by decide) (show decode code 1792 = .ok (.invokevirtual 186, 3) by decide +kernel) (vs := [.inl (xs (j + 1)), .inl (xs (j + 2))]) (rest := []) rfl rfl (Nat.zero_le _) b3 b1 b2 b4 (fun r h2 hr => ?_)
  obtain ⟨⟨y, rfl, -, v, rfl⟩, hJ⟩ := hr
  refine lg_pop C (show decode code 1795 = .ok (.pop, 1) by decide +kernel) ?_
  refine lg_go (t := 1822) C (show decode code 1796 = .ok (.goto 26, 3) by decide +kernel) (by decide) ?_
  exact kk _ _ _ hJ
theorem cs_41 (C : LC p s m meth c b L xs D tys) (hj : j + 6 ≤ L) (hp : aBoth (fun x => ∃ u : Int32, x = .inl u) (fun x y => (∃ u : Int32, x = .inl u) ∧ ∃ u : Int32, y = .inl u) 165 295 [.inl (xs (j + 1))] J h kc ks) (kk : ∀ h kc ks, J h kc ks → LG p l e s m below meth c b D tys 0 69 j 1822 [] h kc ks) : LG p l e s m below meth c b D tys 0 69 j 1799 [] h kc ks := by
  obtain ⟨mc, ms, fs, a1, a2, a3, a4⟩ := hp
  refine lg_x C (show decode code 1799 = .ok (.aload_n 1, 1) by decide +kernel) ?_
  refine lg_arg 1 C rfl (by omega) (show decode code 1800 = .ok (.aload_n 0, 1) by decide +kernel) (show decode code 1801 = .ok (.iload_n 3, 1) by decide +kernel) (show decode code 1802 = .ok (.iconst 1, 1) by decide +kernel) (show decode code 1803 = .ok (.iadd, 1) by decide +kernel) (show decode code 1804 = .ok (.iaload, 1) by decide +kernel) ?_
  refine lg_call (M := mX11_count) (ci := 11) (N := 8) (T := TX11) (ok_all 60) (by decide) C mt_165 fc_X11_count fi_X11_count rfl lk_1422 lk_1423 lk_1424 fd_X11_count (by decide) (show decode code 1805 = .ok (.invokevirtual 187, 3) by decide +kernel) (vs := [.inl (xs (j + 1))]) (rest := []) rfl rfl (Nat.zero_le _) a3 a1 a2 a4 (fun r h1 hr => ?_)
  obtain ⟨x, mc2, ms2, gs, rfl, p1, b1, b2, b3, b4⟩ := hr
  obtain ⟨u, rfl⟩ := p1
  refine lg_pop C (show decode code 1808 = .ok (.pop, 1) by decide +kernel) ?_
  refine lg_m C (show decode code 1809 = .ok (.aload_n 2, 1) by decide +kernel) ?_
  refine lg_arg 1 C rfl (by omega) (show decode code 1810 = .ok (.aload_n 0, 1) by decide +kernel) (show decode code 1811 = .ok (.iload_n 3, 1) by decide +kernel) (show decode code 1812 = .ok (.iconst 1, 1) by decide +kernel) (show decode code 1813 = .ok (.iadd, 1) by decide +kernel) (show decode code 1814 = .ok (.iaload, 1) by decide +kernel) ?_
  refine lg_call (M := mX12_count) (ci := 12) (N := 69) (T := TX12) (ok_all 60) (by decide) C mt_295 fc_X12_count fi_X12_count rfl lk_2078 lk_2079 lk_2080 fd_X12_count (by decide) (show decode code 1815 = .ok (.invokevirtual 190, 3) by decide +kernel) (vs := [.inl (xs (j + 1))]) (rest := []) rfl rfl (Nat.zero_le _) b3 b1 b2 b4 (fun r h2 hr => ?_)
  obtain ⟨⟨y, rfl, -, v, rfl⟩, hJ⟩ := hr
  refine lg_pop C (show decode code 1818 = .ok (.pop, 1) by decide +kernel) ?_
  refine lg_go (t := 1822) C (show decode code 1819 = .ok (.goto 3, 3) by decide +kernel) (by decide) ?_
  exact kk _ _ _ hJ
/-- what one call of the script asks: k is its kind -/
def aOpK (xs : Nat → Int32) (j : Nat) (J : aH → Nat → Nat → Prop) (h : aH) (kc ks : Nat) (k : Nat) : Prop := match k with
  | 0 => aBoth (fun x => ∃ u : Int32, x = .inl u) (fun x y => ∃ u : Int32, x = .inl u ∧ y = .inl u) 124 191 [.inl (xs (j + 1)), .inl (xs (j + 2))] J h kc ks
  | 1 => aBoth (fun x => ∃ u : Int32, x = .inl u) (fun x y => (∃ u : Int32, x = .inl u) ∧ ∃ u : Int32, y = .inl u) 125 193 [.inl (xs (j + 1)), .inl (xs (j + 2)), .inl (xs (j + 3)), .inl (xs (j + 4))] J h kc ks
  | 2 => aBoth (fun x => ∃ u : Int32, x = .inl u) (fun x y => (∃ u : Int32, x = .inl u) ∧ ∃ u : Int32, y = .inl u) 126 194 [.inl (xs (j + 1)), .inl (xs (j + 2))] J h kc ks
  | 3 => aBoth (fun x => ∃ u : Int32, x = .inl u) (fun x y => (∃ u : Int32, x = .inl u) ∧ ∃ u : Int32, y = .inl u) 127 202 [.inl (xs (j + 1)), .inl (xs (j + 2)), .inl (xs (j + 3))] J h kc ks
  | 4 => aBoth (fun x => ∃ u : Int32, x = .inl u) (fun x y => (∃ u : Int32, x = .inl u) ∧ ∃ u : Int32, y = .inl u) 128 209 [.inl (xs (j + 1)), .inl (xs (j + 2)), .inl (xs (j + 3)), .inl (xs (j + 4))] J h kc ks
  | 5 => aBoth (fun x => ∃ u : Int32, x = .inl u) (fun x y => (∃ u : Int32, x = .inl u) ∧ ∃ u : Int32, y = .inl u) 129 211 [.inl (xs (j + 1)), .inl (xs (j + 2)), .inl (xs (j + 3))] J h kc ks
  | 6 => aBoth (fun x => ∃ u : Int32, x = .inl u) (fun x y => (∃ u : Int32, x = .inl u) ∧ ∃ u : Int32, y = .inl u) 130 212 [.inl (xs (j + 1)), .inl (xs (j + 2))] J h kc ks
  | 7 => aBoth (fun x => ∃ u : Int32, x = .inl u) (fun x y => (∃ u : Int32, x = .inl u) ∧ ∃ u : Int32, y = .inl u) 131 227 [.inl (xs (j + 1))] J h kc ks
  | 8 => aBoth (fun x => ∃ u : Int32, x = .inl u) (fun x y => (∃ u : Int32, x = .inl u) ∧ ∃ u : Int32, y = .inl u) 132 231 [.inl (xs (j + 1)), .inl (xs (j + 2)), .inl (xs (j + 3))] J h kc ks
  | 9 => aBoth (fun x => ∃ u : Int32, x = .inl u) (fun x y => (∃ u : Int32, x = .inl u) ∧ ∃ u : Int32, y = .inl u) 133 232 [.inl (xs (j + 1)), .inl (xs (j + 2)), .inl (xs (j + 3))] J h kc ks
  | 10 => aBoth (fun x => ∃ u : Int32, x = .inl u) (fun x y => (∃ u : Int32, x = .inl u) ∧ ∃ u : Int32, y = .inl u) 134 239 [.inl (xs (j + 1)), .inl (xs (j + 2)), .inl (xs (j + 3))] J h kc ks
  | 11 => aBoth (fun x => ∃ u : Int32, x = .inl u) (fun x y => (∃ u : Int32, x = .inl u) ∧ ∃ u : Int32, y = .inl u) 135 237 [.inl (xs (j + 1)), .inl (xs (j + 2)), .inl (xs (j + 3))] J h kc ks
  | 12 => aBoth (fun x => ∃ u : Int32, x = .inl u) (fun x y => (∃ u : Int32, x = .inl u) ∧ ∃ u : Int32, y = .inl u) 136 240 [.inl (xs (j + 1)), .inl (xs (j + 2)), .inl (xs (j + 3)), .inl (xs (j + 4))] J h kc ks
  | 13 => aBoth (fun x => ∃ u : Int32, x = .inl u) (fun x y => (∃ u : Int32, x = .inl u) ∧ ∃ u : Int32, y = .inl u) 137 243 [.inl (xs (j + 1)), .inl (xs (j + 2))] J h kc ks
  | 14 => aBoth (fun x => ∃ u : Int32, x = .inl u) (fun x y => (∃ u : Int32, x = .inl u) ∧ ∃ u : Int32, y = .inl u) 138 245 [.inl (xs (j + 1)), .inl (xs (j + 2)), .inl (xs (j + 3))] J h kc ks
  | 15 => aBoth (fun x => ∃ u : Int32, x = .inl u) (fun x y => (∃ u : Int32, x = .inl u) ∧ ∃ u : Int32, y = .inl u) 139 252 [.inl (xs (j + 1)), .inl (xs (j + 2)), .inl (xs (j + 3))] J h kc ks
  | 16 => aBoth (fun x => ∃ u : Int32, x = .inl u) (fun x y => (∃ u : Int32, x = .inl u) ∧ ∃ u : Int32, y = .inl u) 140 253 [.inl (xs (j + 1)), .inl (xs (j + 2)), .inl (xs (j + 3))] J h kc ks
  | 17 => aBoth (fun x => ∃ u : Int32, x = .inl u) (fun x y => (∃ u : Int32, x = .inl u) ∧ ∃ u : Int32, y = .inl u) 141 255 [.inl (xs (j + 1)), .inl (xs (j + 2))] J h kc ks
  | 18 => aBoth (fun x => ∃ u : Int32, x = .inl u) (fun x y => (∃ u : Int32, x = .inl u) ∧ ∃ u : Int32, y = .inl u) 142 256 [.inl (xs (j + 1)), .inl (xs (j + 2))] J h kc ks
  | 19 => aBoth (fun x => ∃ u : Int32, x = .inl u) (fun x y => (∃ u : Int32, x = .inl u) ∧ ∃ u : Int32, y = .inl u) 143 258 [.inl (xs (j + 1)), .inl (xs (j + 2))] J h kc ks
  | 20 => aBoth (fun x => ∃ u : Int32, x = .inl u) (fun x y => (∃ u : Int32, x = .inl u) ∧ ∃ u : Int32, y = .inl u) 144 259 [.inl (xs (j + 1))] J h kc ks
  | 21 => aBoth (fun x => ∃ u : Int32, x = .inl u) (fun x y => (∃ u : Int32, x = .inl u) ∧ ∃ u : Int32, y = .inl u) 145 264 [.inl (xs (j + 1))] J h kc ks
  | 22 => aBoth (fun x => ∃ u : Int32, x = .inl u) (fun x y => (∃ u : Int32, x = .inl u) ∧ ∃ u : Int32, y = .inl u) 146 266 [.inl (xs (j + 1))] J h kc ks
  | 23 => aBoth (fun x => ∃ u : Int32, x = .inl u) (fun x y => (∃ u : Int32, x = .inl u) ∧ ∃ u : Int32, y = .inl u) 147 267 [.inl (xs (j + 1)), .inl (xs (j + 2))] J h kc ks
  | 24 => aBoth (fun x => ∃ u : Int32, x = .inl u) (fun x y => (∃ u : Int32, x = .inl u) ∧ ∃ u : Int32, y = .inl u) 148 270 [.inl (xs (j + 1)), .inl (xs (j + 2)), .inl (xs (j + 3))] J h kc ks
  | 25 => aBoth (fun x => ∃ u : Int32, x = .inl u) (fun x y => (∃ u : Int32, x = .inl u) ∧ ∃ u : Int32, y = .inl u) 149 268 [] J h kc ks
  | 26 => aBoth (fun x => ∃ u : Int32, x = .inl u) (fun x y => (∃ u : Int32, x = .inl u) ∧ ∃ u : Int32, y = .inl u) 150 271 [.inl (xs (j + 1)), .inl (xs (j + 2)), .inl (xs (j + 3))] J h kc ks
  | 27 => aBoth (fun x => ∃ u : Int32, x = .inl u) (fun x y => (∃ u : Int32, x = .inl u) ∧ ∃ u : Int32, y = .inl u) 151 273 [.inl (xs (j + 1)), .inl (xs (j + 2)), .inl (xs (j + 3))] J h kc ks
  | 28 => aBoth (fun x => ∃ u : Int32, x = .inl u) (fun x y => (∃ u : Int32, x = .inl u) ∧ ∃ u : Int32, y = .inl u) 152 275 [.inl (xs (j + 1)), .inl (xs (j + 2)), .inl (xs (j + 3)), .inl (xs (j + 4))] J h kc ks
  | 29 => aBoth (fun x => ∃ u : Int32, x = .inl u) (fun x y => (∃ u : Int32, x = .inl u) ∧ ∃ u : Int32, y = .inl u) 153 277 [.inl (xs (j + 1)), .inl (xs (j + 2)), .inl (xs (j + 3))] J h kc ks
  | 30 => aBoth (fun x => ∃ u : Int32, x = .inl u) (fun x y => (∃ u : Int32, x = .inl u) ∧ ∃ u : Int32, y = .inl u) 154 278 [.inl (xs (j + 1)), .inl (xs (j + 2))] J h kc ks
  | 31 => aBoth (fun x => ∃ u : Int32, x = .inl u) (fun x y => (∃ u : Int32, x = .inl u) ∧ ∃ u : Int32, y = .inl u) 155 280 [.inl (xs (j + 1))] J h kc ks
  | 32 => aBoth (fun x => ∃ u : Int32, x = .inl u) (fun x y => (∃ u : Int32, x = .inl u) ∧ ∃ u : Int32, y = .inl u) 156 282 [.inl (xs (j + 1)), .inl (xs (j + 2)), .inl (xs (j + 3))] J h kc ks
  | 33 => aBoth (fun x => ∃ u : Int32, x = .inl u) (fun x y => (∃ u : Int32, x = .inl u) ∧ ∃ u : Int32, y = .inl u) 157 293 [.inl (xs (j + 1)), .inl (xs (j + 2)), .inl (xs (j + 3))] J h kc ks
  | 34 => aBoth (fun x => ∃ u : Int32, x = .inl u) (fun x y => (∃ u : Int32, x = .inl u) ∧ ∃ u : Int32, y = .inl u) 158 294 [.inl (xs (j + 1))] J h kc ks
  | 35 => aBoth (fun x => ∃ u : Int32, x = .inl u) (fun x y => (∃ u : Int32, x = .inl u) ∧ ∃ u : Int32, y = .inl u) 159 297 [.inl (xs (j + 1)), .inl (xs (j + 2))] J h kc ks
  | 36 => aBoth (fun x => ∃ u : Int32, x = .inl u) (fun x y => (∃ u : Int32, x = .inl u) ∧ ∃ u : Int32, y = .inl u) 160 298 [.inl (xs (j + 1)), .inl (xs (j + 2)), .inl (xs (j + 3))] J h kc ks
  | 37 => aBoth (fun x => ∃ u : Int32, x = .inl u) (fun x y => (∃ u : Int32, x = .inl u) ∧ ∃ u : Int32, y = .inl u) 161 300 [.inl (xs (j + 1)), .inl (xs (j + 2)), .inr (.inl (((xs (j + 3)).toInt64 <<< ((32 : Int32).toInt64 &&& 63)) ||| ((xs (j + 4)).toInt64 &&& 4294967295)))] J h kc ks
  | 38 => aBoth (fun x => ∃ u : Int64, x = .inr (.inl u)) (fun x y => (∃ u : Int64, x = .inr (.inl u)) ∧ ∃ u : Int64, y = .inr (.inl u)) 162 301 [.inl (xs (j + 1)), .inl (xs (j + 2))] J h kc ks
  | 39 => aBoth (fun x => ∃ u : Int32, x = .inl u) (fun x y => (∃ u : Int32, x = .inl u) ∧ ∃ u : Int32, y = .inl u) 163 302 [.inl (xs (j + 1)), .inl (xs (j + 2)), .inl (xs (j + 3)), .inl (xs (j + 4)), .inl (xs (j + 5))] J h kc ks
  | 40 => aBoth (fun x => ∃ u : Int32, x = .inl u) (fun x y => (∃ u : Int32, x = .inl u) ∧ ∃ u : Int32, y = .inl u) 164 303 [.inl (xs (j + 1)), .inl (xs (j + 2))] J h kc ks
  | 41 => aBoth (fun x => ∃ u : Int32, x = .inl u) (fun x y => (∃ u : Int32, x = .inl u) ∧ ∃ u : Int32, y = .inl u) 165 295 [.inl (xs (j + 1))] J h kc ks
  | _ => J h kc ks
theorem law_sw (C : LC p s m meth c b L xs D tys) (hj : j + 6 ≤ L) {x : Int32} (hp : ∀ k : Nat, x.toInt = (k : Int) → aOpK xs j J h kc ks k) (h0 : 0 ≤ x.toInt) (kk : ∀ h kc ks, J h kc ks → LG p l e s m below meth c b D tys 0 69 j 1822 [] h kc ks) : LG p l e s m below meth c b D tys 0 69 j 33 [.inl x] h kc ks := by
  obtain ⟨k, hk⟩ : ∃ k : Nat, x.toInt = (k : Int) := ⟨x.toInt.toNat, by omega⟩
  have hpk := hp k hk
  by_cases h42 : k < 42
  · have go : ∀ t, ([216, 249, 302, 335, 378, 431, 474, 507, 530, 573, 616, 659, 702, 755, 788, 831, 874, 917, 950, 983, 1016, 1039, 1062, 1085, 1118, 1161, 1174, 1217, 1260, 1313, 1356, 1389, 1412, 1455, 1498, 1521, 1554, 1597, 1670, 1703, 1766, 1799] : List Nat)[k]? = some t → LG p l e s m below meth c b D tys 0 69 j t [] h kc ks → LG p l e s m below meth c b D tys 0 69 j 33 [.inl x] h kc ks := by
      intro t ht q
      intro H locs cells slots ls us ws ax am e1 e2 hP hD hS hH h1 h2 hl hs hc hks
      obtain ⟨u, us, rfl, hv, hs⟩ := hs
      cases hv
      refine lv_tableIn C.1.1 C.1.2.1 (show decode code 33 = .ok (.tableswitch 1789 0 41 #[183, 216, 269, 302, 345, 398, 441, 474, 497, 540, 583, 626, 669, 722, 755, 798, 841, 884, 917, 950, 983, 1006, 1029, 1052, 1085, 1128, 1141, 1184, 1227, 1280, 1323, 1356, 1379, 1422, 1465, 1488, 1521, 1564, 1637, 1670, 1733, 1766], 183) by decide +kernel) (by omega) (by omega) (off := (t : Int) - 33) ?_ (by omega) (q H locs cells slots ls us ws ax am e1 e2 hP hD hS hH h1 h2 hl hs hc hks)
      rw [show (x.toInt - 0).toNat = k by omega]
      have e : (#[183, 216, 269, 302, 345, 398, 441, 474, 497, 540, 583, 626, 669, 722, 755, 798, 841, 884, 917, 950, 983, 1006, 1029, 1052, 1085, 1128, 1141, 1184, 1227, 1280, 1323, 1356, 1379, 1422, 1465, 1488, 1521, 1564, 1637, 1670, 1733, 1766] : Array Int).toList = ([216, 249, 302, 335, 378, 431, 474, 507, 530, 573, 616, 659, 702, 755, 788, 831, 874, 917, 950, 983, 1016, 1039, 1062, 1085, 1118, 1161, 1174, 1217, 1260, 1313, 1356, 1389, 1412, 1455, 1498, 1521, 1554, 1597, 1670, 1703, 1766, 1799] : List Nat).map (fun t : Nat => (t : Int) - 33) := rfl
      rw [← Array.getElem?_toList, e, List.getElem?_map, ht]
      rfl
    match k, h42, hpk, go with
    | 0, _, hpk, go => exact go 216 rfl (cs_0 C hj hpk kk)
    | 1, _, hpk, go => exact go 249 rfl (cs_1 C hj hpk kk)
    | 2, _, hpk, go => exact go 302 rfl (cs_2 C hj hpk kk)
    | 3, _, hpk, go => exact go 335 rfl (cs_3 C hj hpk kk)
    | 4, _, hpk, go => exact go 378 rfl (cs_4 C hj hpk kk)
    | 5, _, hpk, go => exact go 431 rfl (cs_5 C hj hpk kk)
    | 6, _, hpk, go => exact go 474 rfl (cs_6 C hj hpk kk)
    | 7, _, hpk, go => exact go 507 rfl (cs_7 C hj hpk kk)
    | 8, _, hpk, go => exact go 530 rfl (cs_8 C hj hpk kk)
    | 9, _, hpk, go => exact go 573 rfl (cs_9 C hj hpk kk)
    | 10, _, hpk, go => exact go 616 rfl (cs_10 C hj hpk kk)
    | 11, _, hpk, go => exact go 659 rfl (cs_11 C hj hpk kk)
    | 12, _, hpk, go => exact go 702 rfl (cs_12 C hj hpk kk)
    | 13, _, hpk, go => exact go 755 rfl (cs_13 C hj hpk kk)
    | 14, _, hpk, go => exact go 788 rfl (cs_14 C hj hpk kk)
    | 15, _, hpk, go => exact go 831 rfl (cs_15 C hj hpk kk)
    | 16, _, hpk, go => exact go 874 rfl (cs_16 C hj hpk kk)
    | 17, _, hpk, go => exact go 917 rfl (cs_17 C hj hpk kk)
    | 18, _, hpk, go => exact go 950 rfl (cs_18 C hj hpk kk)
    | 19, _, hpk, go => exact go 983 rfl (cs_19 C hj hpk kk)
    | 20, _, hpk, go => exact go 1016 rfl (cs_20 C hj hpk kk)
    | 21, _, hpk, go => exact go 1039 rfl (cs_21 C hj hpk kk)
    | 22, _, hpk, go => exact go 1062 rfl (cs_22 C hj hpk kk)
    | 23, _, hpk, go => exact go 1085 rfl (cs_23 C hj hpk kk)
    | 24, _, hpk, go => exact go 1118 rfl (cs_24 C hj hpk kk)
    | 25, _, hpk, go => exact go 1161 rfl (cs_25 C hj hpk kk)
    | 26, _, hpk, go => exact go 1174 rfl (cs_26 C hj hpk kk)
    | 27, _, hpk, go => exact go 1217 rfl (cs_27 C hj hpk kk)
    | 28, _, hpk, go => exact go 1260 rfl (cs_28 C hj hpk kk)
    | 29, _, hpk, go => exact go 1313 rfl (cs_29 C hj hpk kk)
    | 30, _, hpk, go => exact go 1356 rfl (cs_30 C hj hpk kk)
    | 31, _, hpk, go => exact go 1389 rfl (cs_31 C hj hpk kk)
    | 32, _, hpk, go => exact go 1412 rfl (cs_32 C hj hpk kk)
    | 33, _, hpk, go => exact go 1455 rfl (cs_33 C hj hpk kk)
    | 34, _, hpk, go => exact go 1498 rfl (cs_34 C hj hpk kk)
    | 35, _, hpk, go => exact go 1521 rfl (cs_35 C hj hpk kk)
    | 36, _, hpk, go => exact go 1554 rfl (cs_36 C hj hpk kk)
    | 37, _, hpk, go => exact go 1597 rfl (cs_37 C hj hpk kk)
    | 38, _, hpk, go => exact go 1670 rfl (cs_38 C hj hpk kk)
    | 39, _, hpk, go => exact go 1703 rfl (cs_39 C hj hpk kk)
    | 40, _, hpk, go => exact go 1766 rfl (cs_40 C hj hpk kk)
    | 41, _, hpk, go => exact go 1799 rfl (cs_41 C hj hpk kk)
    | k + 42, h42, _, _ => exact absurd h42 (by omega)
  · have hJ : J h kc ks := by
      match k, h42, hpk with
      | 0, h42, _ => exact absurd (by decide) h42
      | 1, h42, _ => exact absurd (by decide) h42
      | 2, h42, _ => exact absurd (by decide) h42
      | 3, h42, _ => exact absurd (by decide) h42
      | 4, h42, _ => exact absurd (by decide) h42
      | 5, h42, _ => exact absurd (by decide) h42
      | 6, h42, _ => exact absurd (by decide) h42
      | 7, h42, _ => exact absurd (by decide) h42
      | 8, h42, _ => exact absurd (by decide) h42
      | 9, h42, _ => exact absurd (by decide) h42
      | 10, h42, _ => exact absurd (by decide) h42
      | 11, h42, _ => exact absurd (by decide) h42
      | 12, h42, _ => exact absurd (by decide) h42
      | 13, h42, _ => exact absurd (by decide) h42
      | 14, h42, _ => exact absurd (by decide) h42
      | 15, h42, _ => exact absurd (by decide) h42
      | 16, h42, _ => exact absurd (by decide) h42
      | 17, h42, _ => exact absurd (by decide) h42
      | 18, h42, _ => exact absurd (by decide) h42
      | 19, h42, _ => exact absurd (by decide) h42
      | 20, h42, _ => exact absurd (by decide) h42
      | 21, h42, _ => exact absurd (by decide) h42
      | 22, h42, _ => exact absurd (by decide) h42
      | 23, h42, _ => exact absurd (by decide) h42
      | 24, h42, _ => exact absurd (by decide) h42
      | 25, h42, _ => exact absurd (by decide) h42
      | 26, h42, _ => exact absurd (by decide) h42
      | 27, h42, _ => exact absurd (by decide) h42
      | 28, h42, _ => exact absurd (by decide) h42
      | 29, h42, _ => exact absurd (by decide) h42
      | 30, h42, _ => exact absurd (by decide) h42
      | 31, h42, _ => exact absurd (by decide) h42
      | 32, h42, _ => exact absurd (by decide) h42
      | 33, h42, _ => exact absurd (by decide) h42
      | 34, h42, _ => exact absurd (by decide) h42
      | 35, h42, _ => exact absurd (by decide) h42
      | 36, h42, _ => exact absurd (by decide) h42
      | 37, h42, _ => exact absurd (by decide) h42
      | 38, h42, _ => exact absurd (by decide) h42
      | 39, h42, _ => exact absurd (by decide) h42
      | 40, h42, _ => exact absurd (by decide) h42
      | 41, h42, _ => exact absurd (by decide) h42
      | k + 42, _, hpk => exact hpk
    intro H locs cells slots ls us ws ax am e1 e2 hP hD hS hH h1 h2 hl hs hc hks
    obtain ⟨u, us, rfl, hv, hs⟩ := hs
    cases hv
    exact lv_tableOut C.1.1 C.1.2.1 (show decode code 33 = .ok (.tableswitch 1789 0 41 #[183, 216, 269, 302, 345, 398, 441, 474, 497, 540, 583, 626, 669, 722, 755, 798, 841, 884, 917, 950, 983, 1006, 1029, 1052, 1085, 1128, 1141, 1184, 1227, 1280, 1323, 1356, 1379, 1422, 1465, 1488, 1521, 1564, 1637, 1670, 1733, 1766], 183) by decide +kernel) (Or.inr (by omega)) (by decide) (kk _ _ _ hJ H locs cells slots ls us ws ax am e1 e2 hP hD hS hH h1 h2 hl hs hc hks)
theorem law_head (C : LC p s m meth c b L xs D tys) (hj : j ≤ 400) (kx : j + 6 ≤ L → LG p l e s m below meth c b D tys 0 69 j 33 [.inl (xs j &&& 63)] h kc ks) : LG p l e s m below meth c b D tys 0 69 j 18 [] h kc ks := by
  intro H locs cells slots ls us ws ax am e1 e2 hP hD hS hH h1 h2 hl hs hc hks
  have hx := C.1.1
  have hb := C.1.2.1
  have hL := C.2.2.2.2.1
  have hX : va_X b L xs s s.heap := C.1.2.2.2.2.2.2.1
  have hbl : b < s.heap.size := C.1.2.2.2.2.2.2.2.1
  cases hs
  refine lv_iload_n hx hb (show decode code 18 = .ok (.iload_n 3, 1) by decide +kernel) rfl (lv_at hl 3 rfl) ?_
  refine lv_aload_n hx hb (show decode code 19 = .ok (.aload_n 0, 1) by decide +kernel) rfl (lv_at hl 0 rfl) ?_
  refine va_slen hx hb hX hbl (Nat.not_le.mpr hbl) hS (show decode code 20 = .ok (.arraylength, 1) by decide +kernel) ?_
  refine lv_bipush (v := 6) hx hb (show decode code 21 = .ok (.bipush 6, 2) by decide +kernel) (by decide) ?_
  refine lv_isub hx hb (show decode code 23 = .ok (.isub, 1) by decide +kernel) ?_
  have e1' : (Int32.ofNat L - 6).toInt = (L : Int) - 6 := pk_sub_toInt (a := L) (b := 6) (by omega) (by decide)
  have e2' : (nI j).toInt = (j : Int) := nI_toInt (by omega)
  refine lv_icmp_gt (tgt := 1828) hx hb (show decode code 24 = .ok (.if_icmp .gt 1804, 3) by decide +kernel) (by decide) (fun q => ?_) (fun q => ?_)
  · refine lv_iconst (v := 1) hx hb (show decode code 1828 = .ok (.iconst 1, 1) by decide +kernel) (by decide) ?_
    refine va_forget (fun q hq => hS.2.2 q hq) ?_
    refine W.widen (k := 600000) (n := 7302250) (by omega) (by omega) ?_
    exact lw_ret hx hb C.1.2.2.1 C.1.2.2.2.2.2.2.2.2.1 (show decode code 1829 = .ok (.ireturn, 1) by decide +kernel)
  · have hle : j + 6 ≤ L := by
      have q2 : ¬ (Int32.ofNat L - 6).toInt < (nI j).toInt := fun z => q (Int32.lt_iff_toInt_lt.mpr z)
      omega
    refine lv_aload_n hx hb (show decode code 27 = .ok (.aload_n 0, 1) by decide +kernel) rfl (lv_at hl 0 rfl) ?_
    refine lv_iload_n hx hb (show decode code 28 = .ok (.iload_n 3, 1) by decide +kernel) rfl (lv_at hl 3 rfl) ?_
    refine va_sld hx hb hX hbl (Nat.not_le.mpr hbl) hS (vp_in_nI (by omega) (by omega)) (show decode code 29 = .ok (.iaload, 1) by decide +kernel) ?_
    rw [nI_clamp (by omega)]
    refine lv_bipush (v := 63) hx hb (show decode code 30 = .ok (.bipush 63, 2) by decide +kernel) (by decide) ?_
    refine lv_iand hx hb (show decode code 32 = .ok (.iand, 1) by decide +kernel) ?_
    exact kx hle H locs cells slots ls _ ws ax am e1 e2 hP hD hS hH h1 h2 hl ⟨_, [], rfl, rfl, rfl⟩ hc hks
theorem law_next (C : LC p s m meth c b L xs D tys) (hj : j ≤ 400) (k : LG p l e s m below meth c b D tys 0 69 (j + 6) 18 [] h kc ks) : LG p l e s m below meth c b D tys 0 69 j 1822 [] h kc ks := by
  intro H locs cells slots ls us ws ax am e1 e2 hP hD hS hH h1 h2 hl hs hc hks
  cases hs
  refine lv_iinc (v := nI (j + 6)) (lv' := [(3, .int (nI (j + 6))), (0, .ref b), (1, .ref ax), (2, .ref am)]) C.1.1 C.1.2.1 (show decode code 1822 = .ok (.iinc 3 6, 3) by decide +kernel) hl (k := 3) rfl (nI_add j 6) (by decide) rfl (fun ls hl => ?_)
  refine lv_goto (tgt := 18) C.1.1 C.1.2.1 (show decode code 1825 = .ok (.goto (-1807), 3) by decide +kernel) (by decide) ?_
  exact k H locs cells slots ls [] ws ax am e1 e2 hP hD hS hH h1 h2 (lv_sub hl [1, 2, 3, 0] rfl) rfl hc hks
/-- THE LAW'S LOOP, by an invariant of the two objects -/
theorem law_loop (C : LC p s m meth c b L xs D tys) (Inv : Nat → aH → Nat → Nat → Prop) (hop : ∀ (j : Nat) (h : aH) (kc ks : Nat), Inv j h kc ks → j + 6 ≤ L → ∀ k : Nat, (xs j &&& 63).toInt = (k : Int) → aOpK xs j (Inv (j + 6)) h kc ks k) :
    ∀ (n j : Nat) (h : aH) (kc ks : Nat), L < j + n → j ≤ 390 → Inv j h kc ks → LG p l e s m below meth c b D tys 0 69 j 18 [] h kc ks
  | 0, j, h, kc, ks, hn, hj, _ => law_head C (by omega) (fun q => absurd q (by omega))
  | n + 1, j, h, kc, ks, hn, hj, hI => law_head C (by omega) (fun hle => by
    have hL := C.2.2.2.2.1
    obtain ⟨q, hq, e⟩ := pk_andE (xs j) (m := 63) 6 (by decide)
    refine law_sw (J := Inv (j + 6)) C hle (hop j h kc ks hI hle) (by rw [e, nI_toInt (by omega)]; omega) (fun h' kc' ks' hI' => ?_)
    exact law_next C (by omega) (law_loop C Inv hop n (j + 6) h' kc' ks' (by omega) (by omega) hI'))
end WALK
