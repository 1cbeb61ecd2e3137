def ztb : List Cond := lw_tbl.filter goodWord
theorem zin {w : Cond} (h : w ∈ lw_tbl) (g : goodWord w = true) : w ∈ ztb := List.mem_filter.mpr ⟨h, g⟩
theorem zlk_good : lks.all goodWord = true := by decide +kernel
theorem zlk_in : ∀ w ∈ lks, w ∈ ztb := fun w h => zin (lk_in w h) (List.all_eq_true.mp zlk_good w h)
theorem ztIn : ∀ ci, ci < 8 → ∀ w ∈ u_ws (tR ci) (tF ci) (tN ci), w ∈ ztb := fun ci h w hw => zin (tIn ci h w hw) (by
  obtain ⟨k, -, rfl⟩ := List.mem_map.mp hw
  unfold u_lay
  split <;> rfl)
def zmf (m : Nat) : Prop := Cond.code (mY m) (mC m) (mL m) (mR m) ∈ lw_tbl ∧ Cond.initialized (mY m).cls ∈ lw_tbl ∧ (if mS m = true then Cond.static (mY m) ∈ lw_tbl else Cond.instanceMethod (mY m) ∈ lw_tbl ∧ Cond.selects (mY m).cls (mY m) (mY m) ∈ lw_tbl) ∧
  (plainName (mY m).cls = true ∧ (mY m).cls ≠ "java/lang/invoke/MethodHandle" ∧ (mY m).cls ≠ "java/lang/invoke/VarHandle" ∧ (parseMethodDescriptor (mY m).desc).map (fun d => d.parameters.length) = some (mA m) ∧ mL m ≤ 16 ∧ (mS m = true ∨ (mK m = 99 ∧ (mY m).cls = "java/lang/String") ∨ (mK m < 8 ∧ tR (mK m) = (mY m).cls)))
set_option maxRecDepth 20000 in
theorem zf0 : zmf 0 := ⟨List.mem_append_right _ (List.mem_of_getElem? (i := 566) rfl), List.mem_append_right _ (List.mem_of_getElem? (i := 6) rfl), ⟨List.mem_append_right _ (List.mem_of_getElem? (i := 564) rfl), List.mem_append_right _ (List.mem_of_getElem? (i := 565) rfl)⟩, by decide +kernel⟩
set_option maxRecDepth 20000 in
theorem zf1 : zmf 1 := ⟨List.mem_append_right _ (List.mem_of_getElem? (i := 562) rfl), List.mem_append_right _ (List.mem_of_getElem? (i := 6) rfl), ⟨List.mem_append_right _ (List.mem_of_getElem? (i := 560) rfl), List.mem_append_right _ (List.mem_of_getElem? (i := 561) rfl)⟩, by decide +kernel⟩
set_option maxRecDepth 20000 in
theorem zf2 : zmf 2 := ⟨List.mem_append_right _ (List.mem_of_getElem? (i := 575) rfl), List.mem_append_right _ (List.mem_of_getElem? (i := 6) rfl), ⟨List.mem_append_right _ (List.mem_of_getElem? (i := 573) rfl), List.mem_append_right _ (List.mem_of_getElem? (i := 574) rfl)⟩, by decide +kernel⟩
set_option maxRecDepth 20000 in
theorem zf3 : zmf 3 := ⟨List.mem_append_right _ (List.mem_of_getElem? (i := 579) rfl), List.mem_append_right _ (List.mem_of_getElem? (i := 6) rfl), ⟨List.mem_append_right _ (List.mem_of_getElem? (i := 578) rfl), List.mem_append_left _ (List.mem_of_getElem? (i := 17) rfl)⟩, by decide +kernel⟩
set_option maxRecDepth 20000 in
theorem zf4 : zmf 4 := ⟨List.mem_append_right _ (List.mem_of_getElem? (i := 587) rfl), List.mem_append_right _ (List.mem_of_getElem? (i := 6) rfl), ⟨List.mem_append_right _ (List.mem_of_getElem? (i := 586) rfl), List.mem_append_left _ (List.mem_of_getElem? (i := 18) rfl)⟩, by decide +kernel⟩
set_option maxRecDepth 20000 in
theorem zf5 : zmf 5 := ⟨List.mem_append_right _ (List.mem_of_getElem? (i := 582) rfl), List.mem_append_right _ (List.mem_of_getElem? (i := 6) rfl), List.mem_append_right _ (List.mem_of_getElem? (i := 581) rfl), by decide +kernel⟩
set_option maxRecDepth 20000 in
theorem zf6 : zmf 6 := ⟨List.mem_append_right _ (List.mem_of_getElem? (i := 595) rfl), List.mem_append_right _ (List.mem_of_getElem? (i := 6) rfl), ⟨List.mem_append_right _ (List.mem_of_getElem? (i := 594) rfl), List.mem_append_left _ (List.mem_of_getElem? (i := 19) rfl)⟩, by decide +kernel⟩
set_option maxRecDepth 20000 in
theorem zf7 : zmf 7 := ⟨List.mem_append_right _ (List.mem_of_getElem? (i := 614) rfl), List.mem_append_right _ (List.mem_of_getElem? (i := 6) rfl), ⟨List.mem_append_right _ (List.mem_of_getElem? (i := 612) rfl), List.mem_append_right _ (List.mem_of_getElem? (i := 613) rfl)⟩, by decide +kernel⟩
set_option maxRecDepth 20000 in
theorem zf8 : zmf 8 := ⟨List.mem_append_right _ (List.mem_of_getElem? (i := 602) rfl), List.mem_append_right _ (List.mem_of_getElem? (i := 6) rfl), ⟨List.mem_append_right _ (List.mem_of_getElem? (i := 600) rfl), List.mem_append_right _ (List.mem_of_getElem? (i := 601) rfl)⟩, by decide +kernel⟩
set_option maxRecDepth 20000 in
theorem zf9 : zmf 9 := ⟨List.mem_append_right _ (List.mem_of_getElem? (i := 606) rfl), List.mem_append_right _ (List.mem_of_getElem? (i := 6) rfl), ⟨List.mem_append_right _ (List.mem_of_getElem? (i := 605) rfl), List.mem_append_left _ (List.mem_of_getElem? (i := 20) rfl)⟩, by decide +kernel⟩
set_option maxRecDepth 20000 in
theorem zf10 : zmf 10 := ⟨List.mem_append_right _ (List.mem_of_getElem? (i := 590) rfl), List.mem_append_right _ (List.mem_of_getElem? (i := 6) rfl), List.mem_append_right _ (List.mem_of_getElem? (i := 589) rfl), by decide +kernel⟩
set_option maxRecDepth 20000 in
theorem zf11 : zmf 11 := ⟨List.mem_append_right _ (List.mem_of_getElem? (i := 519) rfl), List.mem_append_right _ (List.mem_of_getElem? (i := 7) rfl), ⟨List.mem_append_right _ (List.mem_of_getElem? (i := 517) rfl), List.mem_append_right _ (List.mem_of_getElem? (i := 518) rfl)⟩, by decide +kernel⟩
set_option maxRecDepth 20000 in
theorem zf12 : zmf 12 := ⟨List.mem_append_right _ (List.mem_of_getElem? (i := 522) rfl), List.mem_append_right _ (List.mem_of_getElem? (i := 7) rfl), List.mem_append_right _ (List.mem_of_getElem? (i := 521) rfl), by decide +kernel⟩
set_option maxRecDepth 20000 in
theorem zf13 : zmf 13 := ⟨List.mem_append_right _ (List.mem_of_getElem? (i := 525) rfl), List.mem_append_right _ (List.mem_of_getElem? (i := 7) rfl), List.mem_append_right _ (List.mem_of_getElem? (i := 524) rfl), by decide +kernel⟩
set_option maxRecDepth 20000 in
theorem zf14 : zmf 14 := ⟨List.mem_append_right _ (List.mem_of_getElem? (i := 529) rfl), List.mem_append_right _ (List.mem_of_getElem? (i := 7) rfl), ⟨List.mem_append_right _ (List.mem_of_getElem? (i := 528) rfl), List.mem_append_left _ (List.mem_of_getElem? (i := 14) rfl)⟩, by decide +kernel⟩
set_option maxRecDepth 20000 in
theorem zf15 : zmf 15 := ⟨List.mem_append_right _ (List.mem_of_getElem? (i := 533) rfl), List.mem_append_right _ (List.mem_of_getElem? (i := 7) rfl), ⟨List.mem_append_right _ (List.mem_of_getElem? (i := 532) rfl), List.mem_append_left _ (List.mem_of_getElem? (i := 15) rfl)⟩, by decide +kernel⟩
set_option maxRecDepth 20000 in
theorem zf16 : zmf 16 := ⟨List.mem_append_right _ (List.mem_of_getElem? (i := 543) rfl), List.mem_append_right _ (List.mem_of_getElem? (i := 7) rfl), ⟨List.mem_append_right _ (List.mem_of_getElem? (i := 542) rfl), List.mem_append_left _ (List.mem_of_getElem? (i := 16) rfl)⟩, by decide +kernel⟩
set_option maxRecDepth 20000 in
theorem zf17 : zmf 17 := ⟨List.mem_append_right _ (List.mem_of_getElem? (i := 546) rfl), List.mem_append_right _ (List.mem_of_getElem? (i := 7) rfl), List.mem_append_right _ (List.mem_of_getElem? (i := 545) rfl), by decide +kernel⟩
set_option maxRecDepth 20000 in
theorem zf18 : zmf 18 := ⟨List.mem_append_right _ (List.mem_of_getElem? (i := 550) rfl), List.mem_append_right _ (List.mem_of_getElem? (i := 7) rfl), List.mem_append_right _ (List.mem_of_getElem? (i := 549) rfl), by decide +kernel⟩
set_option maxRecDepth 20000 in
theorem zf19 : zmf 19 := ⟨List.mem_append_right _ (List.mem_of_getElem? (i := 409) rfl), List.mem_append_right _ (List.mem_of_getElem? (i := 4) rfl), ⟨List.mem_append_right _ (List.mem_of_getElem? (i := 407) rfl), List.mem_append_right _ (List.mem_of_getElem? (i := 408) rfl)⟩, by decide +kernel⟩
set_option maxRecDepth 20000 in
theorem zf20 : zmf 20 := ⟨List.mem_append_right _ (List.mem_of_getElem? (i := 702) rfl), List.mem_append_right _ (List.mem_of_getElem? (i := 4) rfl), ⟨List.mem_append_right _ (List.mem_of_getElem? (i := 700) rfl), List.mem_append_right _ (List.mem_of_getElem? (i := 701) rfl)⟩, by decide +kernel⟩
set_option maxRecDepth 20000 in
theorem zf21 : zmf 21 := ⟨List.mem_append_right _ (List.mem_of_getElem? (i := 433) rfl), List.mem_append_right _ (List.mem_of_getElem? (i := 4) rfl), ⟨List.mem_append_right _ (List.mem_of_getElem? (i := 431) rfl), List.mem_append_right _ (List.mem_of_getElem? (i := 432) rfl)⟩, by decide +kernel⟩
set_option maxRecDepth 20000 in
theorem zf22 : zmf 22 := ⟨List.mem_append_right _ (List.mem_of_getElem? (i := 511) rfl), List.mem_append_right _ (List.mem_of_getElem? (i := 4) rfl), ⟨List.mem_append_right _ (List.mem_of_getElem? (i := 509) rfl), List.mem_append_right _ (List.mem_of_getElem? (i := 510) rfl)⟩, by decide +kernel⟩
set_option maxRecDepth 20000 in
theorem zf23 : zmf 23 := ⟨List.mem_append_right _ (List.mem_of_getElem? (i := 656) rfl), List.mem_append_right _ (List.mem_of_getElem? (i := 4) rfl), ⟨List.mem_append_right _ (List.mem_of_getElem? (i := 654) rfl), List.mem_append_right _ (List.mem_of_getElem? (i := 655) rfl)⟩, by decide +kernel⟩
set_option maxRecDepth 20000 in
theorem zf24 : zmf 24 := ⟨List.mem_append_right _ (List.mem_of_getElem? (i := 456) rfl), List.mem_append_right _ (List.mem_of_getElem? (i := 4) rfl), ⟨List.mem_append_right _ (List.mem_of_getElem? (i := 454) rfl), List.mem_append_right _ (List.mem_of_getElem? (i := 455) rfl)⟩, by decide +kernel⟩
set_option maxRecDepth 20000 in
theorem zf25 : zmf 25 := ⟨List.mem_append_right _ (List.mem_of_getElem? (i := 464) rfl), List.mem_append_right _ (List.mem_of_getElem? (i := 4) rfl), ⟨List.mem_append_right _ (List.mem_of_getElem? (i := 462) rfl), List.mem_append_right _ (List.mem_of_getElem? (i := 463) rfl)⟩, by decide +kernel⟩
set_option maxRecDepth 20000 in
theorem zf26 : zmf 26 := ⟨List.mem_append_right _ (List.mem_of_getElem? (i := 452) rfl), List.mem_append_right _ (List.mem_of_getElem? (i := 4) rfl), ⟨List.mem_append_right _ (List.mem_of_getElem? (i := 451) rfl), List.mem_append_left _ (List.mem_of_getElem? (i := 10) rfl)⟩, by decide +kernel⟩
set_option maxRecDepth 20000 in
theorem zf27 : zmf 27 := ⟨List.mem_append_right _ (List.mem_of_getElem? (i := 445) rfl), List.mem_append_right _ (List.mem_of_getElem? (i := 4) rfl), ⟨List.mem_append_right _ (List.mem_of_getElem? (i := 443) rfl), List.mem_append_right _ (List.mem_of_getElem? (i := 444) rfl)⟩, by decide +kernel⟩
set_option maxRecDepth 20000 in
theorem zf28 : zmf 28 := ⟨List.mem_append_right _ (List.mem_of_getElem? (i := 480) rfl), List.mem_append_right _ (List.mem_of_getElem? (i := 4) rfl), ⟨List.mem_append_right _ (List.mem_of_getElem? (i := 478) rfl), List.mem_append_right _ (List.mem_of_getElem? (i := 479) rfl)⟩, by decide +kernel⟩
set_option maxRecDepth 20000 in
theorem zf29 : zmf 29 := ⟨List.mem_append_right _ (List.mem_of_getElem? (i := 490) rfl), List.mem_append_right _ (List.mem_of_getElem? (i := 4) rfl), ⟨List.mem_append_right _ (List.mem_of_getElem? (i := 488) rfl), List.mem_append_right _ (List.mem_of_getElem? (i := 489) rfl)⟩, by decide +kernel⟩
set_option maxRecDepth 20000 in
theorem zf30 : zmf 30 := ⟨List.mem_append_right _ (List.mem_of_getElem? (i := 494) rfl), List.mem_append_right _ (List.mem_of_getElem? (i := 4) rfl), ⟨List.mem_append_right _ (List.mem_of_getElem? (i := 493) rfl), List.mem_append_left _ (List.mem_of_getElem? (i := 11) rfl)⟩, by decide +kernel⟩
set_option maxRecDepth 20000 in
theorem zf31 : zmf 31 := ⟨List.mem_append_right _ (List.mem_of_getElem? (i := 498) rfl), List.mem_append_right _ (List.mem_of_getElem? (i := 4) rfl), ⟨List.mem_append_right _ (List.mem_of_getElem? (i := 497) rfl), List.mem_append_left _ (List.mem_of_getElem? (i := 12) rfl)⟩, by decide +kernel⟩
set_option maxRecDepth 20000 in
theorem zf32 : zmf 32 := ⟨List.mem_append_right _ (List.mem_of_getElem? (i := 502) rfl), List.mem_append_right _ (List.mem_of_getElem? (i := 4) rfl), ⟨List.mem_append_right _ (List.mem_of_getElem? (i := 501) rfl), List.mem_append_left _ (List.mem_of_getElem? (i := 13) rfl)⟩, by decide +kernel⟩
set_option maxRecDepth 20000 in
theorem zf33 : zmf 33 := ⟨List.mem_append_right _ (List.mem_of_getElem? (i := 622) rfl), List.mem_append_right _ (List.mem_of_getElem? (i := 8) rfl), ⟨List.mem_append_right _ (List.mem_of_getElem? (i := 620) rfl), List.mem_append_right _ (List.mem_of_getElem? (i := 621) rfl)⟩, by decide +kernel⟩
set_option maxRecDepth 20000 in
theorem zf34 : zmf 34 := ⟨List.mem_append_right _ (List.mem_of_getElem? (i := 625) rfl), List.mem_append_right _ (List.mem_of_getElem? (i := 8) rfl), List.mem_append_right _ (List.mem_of_getElem? (i := 624) rfl), by decide +kernel⟩
set_option maxRecDepth 20000 in
theorem zf35 : zmf 35 := ⟨List.mem_append_right _ (List.mem_of_getElem? (i := 637) rfl), List.mem_append_right _ (List.mem_of_getElem? (i := 8) rfl), ⟨List.mem_append_right _ (List.mem_of_getElem? (i := 635) rfl), List.mem_append_right _ (List.mem_of_getElem? (i := 636) rfl)⟩, by decide +kernel⟩
set_option maxRecDepth 20000 in
theorem zf36 : zmf 36 := ⟨List.mem_append_right _ (List.mem_of_getElem? (i := 280) rfl), List.mem_append_right _ (List.mem_of_getElem? (i := 2) rfl), ⟨List.mem_append_right _ (List.mem_of_getElem? (i := 278) rfl), List.mem_append_right _ (List.mem_of_getElem? (i := 279) rfl)⟩, by decide +kernel⟩
set_option maxRecDepth 20000 in
theorem zf37 : zmf 37 := ⟨List.mem_append_right _ (List.mem_of_getElem? (i := 292) rfl), List.mem_append_right _ (List.mem_of_getElem? (i := 2) rfl), ⟨List.mem_append_right _ (List.mem_of_getElem? (i := 290) rfl), List.mem_append_right _ (List.mem_of_getElem? (i := 291) rfl)⟩, by decide +kernel⟩
set_option maxRecDepth 20000 in
theorem zf38 : zmf 38 := ⟨List.mem_append_right _ (List.mem_of_getElem? (i := 375) rfl), List.mem_append_right _ (List.mem_of_getElem? (i := 2) rfl), ⟨List.mem_append_right _ (List.mem_of_getElem? (i := 374) rfl), List.mem_append_left _ (List.mem_of_getElem? (i := 4) rfl)⟩, by decide +kernel⟩
set_option maxRecDepth 20000 in
theorem zf39 : zmf 39 := ⟨List.mem_append_right _ (List.mem_of_getElem? (i := 392) rfl), List.mem_append_right _ (List.mem_of_getElem? (i := 2) rfl), ⟨List.mem_append_right _ (List.mem_of_getElem? (i := 391) rfl), List.mem_append_left _ (List.mem_of_getElem? (i := 7) rfl)⟩, by decide +kernel⟩
set_option maxRecDepth 20000 in
theorem zf40 : zmf 40 := ⟨List.mem_append_right _ (List.mem_of_getElem? (i := 401) rfl), List.mem_append_right _ (List.mem_of_getElem? (i := 2) rfl), ⟨List.mem_append_right _ (List.mem_of_getElem? (i := 400) rfl), List.mem_append_left _ (List.mem_of_getElem? (i := 8) rfl)⟩, by decide +kernel⟩
set_option maxRecDepth 20000 in
theorem zf41 : zmf 41 := ⟨List.mem_append_right _ (List.mem_of_getElem? (i := 379) rfl), List.mem_append_right _ (List.mem_of_getElem? (i := 2) rfl), ⟨List.mem_append_right _ (List.mem_of_getElem? (i := 378) rfl), List.mem_append_left _ (List.mem_of_getElem? (i := 5) rfl)⟩, by decide +kernel⟩
set_option maxRecDepth 20000 in
theorem zf42 : zmf 42 := ⟨List.mem_append_right _ (List.mem_of_getElem? (i := 383) rfl), List.mem_append_right _ (List.mem_of_getElem? (i := 2) rfl), ⟨List.mem_append_right _ (List.mem_of_getElem? (i := 382) rfl), List.mem_append_left _ (List.mem_of_getElem? (i := 6) rfl)⟩, by decide +kernel⟩
set_option maxRecDepth 20000 in
theorem zf43 : zmf 43 := ⟨List.mem_append_right _ (List.mem_of_getElem? (i := 301) rfl), List.mem_append_right _ (List.mem_of_getElem? (i := 2) rfl), ⟨List.mem_append_right _ (List.mem_of_getElem? (i := 300) rfl), List.mem_append_left _ (List.mem_of_getElem? (i := 0) rfl)⟩, by decide +kernel⟩
set_option maxRecDepth 20000 in
theorem zf44 : zmf 44 := ⟨List.mem_append_right _ (List.mem_of_getElem? (i := 308) rfl), List.mem_append_right _ (List.mem_of_getElem? (i := 2) rfl), ⟨List.mem_append_right _ (List.mem_of_getElem? (i := 307) rfl), List.mem_append_left _ (List.mem_of_getElem? (i := 1) rfl)⟩, by decide +kernel⟩
set_option maxRecDepth 20000 in
theorem zf45 : zmf 45 := ⟨List.mem_append_right _ (List.mem_of_getElem? (i := 315) rfl), List.mem_append_right _ (List.mem_of_getElem? (i := 2) rfl), ⟨List.mem_append_right _ (List.mem_of_getElem? (i := 314) rfl), List.mem_append_left _ (List.mem_of_getElem? (i := 2) rfl)⟩, by decide +kernel⟩
set_option maxRecDepth 20000 in
theorem zf46 : zmf 46 := ⟨List.mem_append_right _ (List.mem_of_getElem? (i := 323) rfl), List.mem_append_right _ (List.mem_of_getElem? (i := 2) rfl), ⟨List.mem_append_right _ (List.mem_of_getElem? (i := 322) rfl), List.mem_append_left _ (List.mem_of_getElem? (i := 3) rfl)⟩, by decide +kernel⟩
set_option maxRecDepth 20000 in
theorem zf47 : zmf 47 := ⟨List.mem_append_right _ (List.mem_of_getElem? (i := 304) rfl), List.mem_append_right _ (List.mem_of_getElem? (i := 2) rfl), List.mem_append_right _ (List.mem_of_getElem? (i := 303) rfl), by decide +kernel⟩
set_option maxRecDepth 20000 in
theorem zf48 : zmf 48 := ⟨List.mem_append_right _ (List.mem_of_getElem? (i := 318) rfl), List.mem_append_right _ (List.mem_of_getElem? (i := 2) rfl), List.mem_append_right _ (List.mem_of_getElem? (i := 317) rfl), by decide +kernel⟩
set_option maxRecDepth 20000 in
theorem zf49 : zmf 49 := ⟨List.mem_append_right _ (List.mem_of_getElem? (i := 296) rfl), List.mem_append_right _ (List.mem_of_getElem? (i := 3) rfl), ⟨List.mem_append_right _ (List.mem_of_getElem? (i := 294) rfl), List.mem_append_right _ (List.mem_of_getElem? (i := 295) rfl)⟩, by decide +kernel⟩
set_option maxRecDepth 20000 in
theorem zf50 : zmf 50 := ⟨List.mem_append_right _ (List.mem_of_getElem? (i := 417) rfl), List.mem_append_right _ (List.mem_of_getElem? (i := 3) rfl), ⟨List.mem_append_right _ (List.mem_of_getElem? (i := 415) rfl), List.mem_append_right _ (List.mem_of_getElem? (i := 416) rfl)⟩, by decide +kernel⟩
set_option maxRecDepth 20000 in
theorem zf51 : zmf 51 := ⟨List.mem_append_right _ (List.mem_of_getElem? (i := 425) rfl), List.mem_append_right _ (List.mem_of_getElem? (i := 3) rfl), ⟨List.mem_append_right _ (List.mem_of_getElem? (i := 423) rfl), List.mem_append_right _ (List.mem_of_getElem? (i := 424) rfl)⟩, by decide +kernel⟩
set_option maxRecDepth 20000 in
theorem zf52 : zmf 52 := ⟨List.mem_append_right _ (List.mem_of_getElem? (i := 387) rfl), List.mem_append_right _ (List.mem_of_getElem? (i := 3) rfl), ⟨List.mem_append_right _ (List.mem_of_getElem? (i := 385) rfl), List.mem_append_right _ (List.mem_of_getElem? (i := 386) rfl)⟩, by decide +kernel⟩
set_option maxRecDepth 20000 in
theorem zf53 : zmf 53 := ⟨List.mem_append_right _ (List.mem_of_getElem? (i := 396) rfl), List.mem_append_right _ (List.mem_of_getElem? (i := 3) rfl), ⟨List.mem_append_right _ (List.mem_of_getElem? (i := 394) rfl), List.mem_append_right _ (List.mem_of_getElem? (i := 395) rfl)⟩, by decide +kernel⟩
set_option maxRecDepth 20000 in
theorem zf54 : zmf 54 := ⟨List.mem_append_right _ (List.mem_of_getElem? (i := 405) rfl), List.mem_append_right _ (List.mem_of_getElem? (i := 3) rfl), ⟨List.mem_append_right _ (List.mem_of_getElem? (i := 403) rfl), List.mem_append_right _ (List.mem_of_getElem? (i := 404) rfl)⟩, by decide +kernel⟩
set_option maxRecDepth 20000 in
theorem zf55 : zmf 55 := ⟨List.mem_append_right _ (List.mem_of_getElem? (i := 276) rfl), List.mem_append_right _ (List.mem_of_getElem? (i := 1) rfl), ⟨List.mem_append_right _ (List.mem_of_getElem? (i := 274) rfl), List.mem_append_right _ (List.mem_of_getElem? (i := 275) rfl)⟩, by decide +kernel⟩
set_option maxRecDepth 20000 in
theorem zf56 : zmf 56 := ⟨List.mem_append_right _ (List.mem_of_getElem? (i := 284) rfl), List.mem_append_right _ (List.mem_of_getElem? (i := 1) rfl), ⟨List.mem_append_right _ (List.mem_of_getElem? (i := 282) rfl), List.mem_append_right _ (List.mem_of_getElem? (i := 283) rfl)⟩, by decide +kernel⟩
set_option maxRecDepth 20000 in
theorem zf57 : zmf 57 := ⟨List.mem_append_right _ (List.mem_of_getElem? (i := 288) rfl), List.mem_append_right _ (List.mem_of_getElem? (i := 1) rfl), ⟨List.mem_append_right _ (List.mem_of_getElem? (i := 286) rfl), List.mem_append_right _ (List.mem_of_getElem? (i := 287) rfl)⟩, by decide +kernel⟩
set_option maxRecDepth 20000 in
theorem zf58 : zmf 58 := ⟨List.mem_append_right _ (List.mem_of_getElem? (i := 413) rfl), List.mem_append_right _ (List.mem_of_getElem? (i := 1) rfl), ⟨List.mem_append_right _ (List.mem_of_getElem? (i := 411) rfl), List.mem_append_right _ (List.mem_of_getElem? (i := 412) rfl)⟩, by decide +kernel⟩
set_option maxRecDepth 20000 in
theorem zf59 : zmf 59 := ⟨List.mem_append_right _ (List.mem_of_getElem? (i := 421) rfl), List.mem_append_right _ (List.mem_of_getElem? (i := 1) rfl), ⟨List.mem_append_right _ (List.mem_of_getElem? (i := 419) rfl), List.mem_append_right _ (List.mem_of_getElem? (i := 420) rfl)⟩, by decide +kernel⟩
set_option maxRecDepth 20000 in
theorem zf60 : zmf 60 := ⟨List.mem_append_right _ (List.mem_of_getElem? (i := 429) rfl), List.mem_append_right _ (List.mem_of_getElem? (i := 1) rfl), ⟨List.mem_append_right _ (List.mem_of_getElem? (i := 427) rfl), List.mem_append_right _ (List.mem_of_getElem? (i := 428) rfl)⟩, by decide +kernel⟩
set_option maxRecDepth 20000 in
theorem zf61 : zmf 61 := ⟨List.mem_append_right _ (List.mem_of_getElem? (i := 437) rfl), List.mem_append_right _ (List.mem_of_getElem? (i := 1) rfl), ⟨List.mem_append_right _ (List.mem_of_getElem? (i := 435) rfl), List.mem_append_right _ (List.mem_of_getElem? (i := 436) rfl)⟩, by decide +kernel⟩
set_option maxRecDepth 20000 in
theorem zf62 : zmf 62 := ⟨List.mem_append_right _ (List.mem_of_getElem? (i := 460) rfl), List.mem_append_right _ (List.mem_of_getElem? (i := 1) rfl), ⟨List.mem_append_right _ (List.mem_of_getElem? (i := 458) rfl), List.mem_append_right _ (List.mem_of_getElem? (i := 459) rfl)⟩, by decide +kernel⟩
set_option maxRecDepth 20000 in
theorem zf63 : zmf 63 := ⟨List.mem_append_right _ (List.mem_of_getElem? (i := 468) rfl), List.mem_append_right _ (List.mem_of_getElem? (i := 1) rfl), ⟨List.mem_append_right _ (List.mem_of_getElem? (i := 466) rfl), List.mem_append_right _ (List.mem_of_getElem? (i := 467) rfl)⟩, by decide +kernel⟩
set_option maxRecDepth 20000 in
theorem zf64 : zmf 64 := ⟨List.mem_append_right _ (List.mem_of_getElem? (i := 472) rfl), List.mem_append_right _ (List.mem_of_getElem? (i := 1) rfl), ⟨List.mem_append_right _ (List.mem_of_getElem? (i := 470) rfl), List.mem_append_right _ (List.mem_of_getElem? (i := 471) rfl)⟩, by decide +kernel⟩
set_option maxRecDepth 20000 in
theorem zf65 : zmf 65 := ⟨List.mem_append_right _ (List.mem_of_getElem? (i := 476) rfl), List.mem_append_right _ (List.mem_of_getElem? (i := 1) rfl), ⟨List.mem_append_right _ (List.mem_of_getElem? (i := 474) rfl), List.mem_append_right _ (List.mem_of_getElem? (i := 475) rfl)⟩, by decide +kernel⟩
set_option maxRecDepth 20000 in
theorem zf66 : zmf 66 := ⟨List.mem_append_right _ (List.mem_of_getElem? (i := 486) rfl), List.mem_append_right _ (List.mem_of_getElem? (i := 1) rfl), ⟨List.mem_append_right _ (List.mem_of_getElem? (i := 484) rfl), List.mem_append_right _ (List.mem_of_getElem? (i := 485) rfl)⟩, by decide +kernel⟩
set_option maxRecDepth 20000 in
theorem zf67 : zmf 67 := ⟨List.mem_append_right _ (List.mem_of_getElem? (i := 507) rfl), List.mem_append_right _ (List.mem_of_getElem? (i := 1) rfl), ⟨List.mem_append_right _ (List.mem_of_getElem? (i := 505) rfl), List.mem_append_right _ (List.mem_of_getElem? (i := 506) rfl)⟩, by decide +kernel⟩
set_option maxRecDepth 20000 in
theorem zf68 : zmf 68 := ⟨List.mem_append_right _ (List.mem_of_getElem? (i := 515) rfl), List.mem_append_right _ (List.mem_of_getElem? (i := 1) rfl), ⟨List.mem_append_right _ (List.mem_of_getElem? (i := 513) rfl), List.mem_append_right _ (List.mem_of_getElem? (i := 514) rfl)⟩, by decide +kernel⟩
set_option maxRecDepth 20000 in
theorem zf69 : zmf 69 := ⟨List.mem_append_right _ (List.mem_of_getElem? (i := 554) rfl), List.mem_append_right _ (List.mem_of_getElem? (i := 1) rfl), ⟨List.mem_append_right _ (List.mem_of_getElem? (i := 552) rfl), List.mem_append_right _ (List.mem_of_getElem? (i := 553) rfl)⟩, by decide +kernel⟩
set_option maxRecDepth 20000 in
theorem zf70 : zmf 70 := ⟨List.mem_append_right _ (List.mem_of_getElem? (i := 558) rfl), List.mem_append_right _ (List.mem_of_getElem? (i := 1) rfl), ⟨List.mem_append_right _ (List.mem_of_getElem? (i := 556) rfl), List.mem_append_right _ (List.mem_of_getElem? (i := 557) rfl)⟩, by decide +kernel⟩
set_option maxRecDepth 20000 in
theorem zf71 : zmf 71 := ⟨List.mem_append_right _ (List.mem_of_getElem? (i := 570) rfl), List.mem_append_right _ (List.mem_of_getElem? (i := 1) rfl), ⟨List.mem_append_right _ (List.mem_of_getElem? (i := 568) rfl), List.mem_append_right _ (List.mem_of_getElem? (i := 569) rfl)⟩, by decide +kernel⟩
set_option maxRecDepth 20000 in
theorem zf72 : zmf 72 := ⟨List.mem_append_right _ (List.mem_of_getElem? (i := 610) rfl), List.mem_append_right _ (List.mem_of_getElem? (i := 1) rfl), ⟨List.mem_append_right _ (List.mem_of_getElem? (i := 608) rfl), List.mem_append_right _ (List.mem_of_getElem? (i := 609) rfl)⟩, by decide +kernel⟩
set_option maxRecDepth 20000 in
theorem zf73 : zmf 73 := ⟨List.mem_append_right _ (List.mem_of_getElem? (i := 618) rfl), List.mem_append_right _ (List.mem_of_getElem? (i := 1) rfl), ⟨List.mem_append_right _ (List.mem_of_getElem? (i := 616) rfl), List.mem_append_right _ (List.mem_of_getElem? (i := 617) rfl)⟩, by decide +kernel⟩
set_option maxRecDepth 20000 in
theorem zf74 : zmf 74 := ⟨List.mem_append_right _ (List.mem_of_getElem? (i := 629) rfl), List.mem_append_right _ (List.mem_of_getElem? (i := 1) rfl), ⟨List.mem_append_right _ (List.mem_of_getElem? (i := 627) rfl), List.mem_append_right _ (List.mem_of_getElem? (i := 628) rfl)⟩, by decide +kernel⟩
set_option maxRecDepth 20000 in
theorem zf75 : zmf 75 := ⟨List.mem_append_right _ (List.mem_of_getElem? (i := 633) rfl), List.mem_append_right _ (List.mem_of_getElem? (i := 1) rfl), ⟨List.mem_append_right _ (List.mem_of_getElem? (i := 631) rfl), List.mem_append_right _ (List.mem_of_getElem? (i := 632) rfl)⟩, by decide +kernel⟩
set_option maxRecDepth 20000 in
theorem zf76 : zmf 76 := ⟨List.mem_append_right _ (List.mem_of_getElem? (i := 644) rfl), List.mem_append_right _ (List.mem_of_getElem? (i := 1) rfl), ⟨List.mem_append_right _ (List.mem_of_getElem? (i := 642) rfl), List.mem_append_right _ (List.mem_of_getElem? (i := 643) rfl)⟩, by decide +kernel⟩
set_option maxRecDepth 20000 in
theorem zf77 : zmf 77 := ⟨List.mem_append_right _ (List.mem_of_getElem? (i := 664) rfl), List.mem_append_right _ (List.mem_of_getElem? (i := 1) rfl), ⟨List.mem_append_right _ (List.mem_of_getElem? (i := 662) rfl), List.mem_append_right _ (List.mem_of_getElem? (i := 663) rfl)⟩, by decide +kernel⟩
set_option maxRecDepth 20000 in
theorem zf78 : zmf 78 := ⟨List.mem_append_right _ (List.mem_of_getElem? (i := 698) rfl), List.mem_append_right _ (List.mem_of_getElem? (i := 1) rfl), ⟨List.mem_append_right _ (List.mem_of_getElem? (i := 696) rfl), List.mem_append_right _ (List.mem_of_getElem? (i := 697) rfl)⟩, by decide +kernel⟩
set_option maxRecDepth 20000 in
theorem zf79 : zmf 79 := ⟨List.mem_append_right _ (List.mem_of_getElem? (i := 706) rfl), List.mem_append_right _ (List.mem_of_getElem? (i := 1) rfl), ⟨List.mem_append_right _ (List.mem_of_getElem? (i := 704) rfl), List.mem_append_right _ (List.mem_of_getElem? (i := 705) rfl)⟩, by decide +kernel⟩
set_option maxRecDepth 20000 in
theorem zf80 : zmf 80 := ⟨List.mem_append_right _ (List.mem_of_getElem? (i := 710) rfl), List.mem_append_right _ (List.mem_of_getElem? (i := 1) rfl), ⟨List.mem_append_right _ (List.mem_of_getElem? (i := 708) rfl), List.mem_append_right _ (List.mem_of_getElem? (i := 709) rfl)⟩, by decide +kernel⟩
set_option maxRecDepth 20000 in
theorem zf81 : zmf 81 := ⟨List.mem_append_right _ (List.mem_of_getElem? (i := 714) rfl), List.mem_append_right _ (List.mem_of_getElem? (i := 1) rfl), ⟨List.mem_append_right _ (List.mem_of_getElem? (i := 712) rfl), List.mem_append_right _ (List.mem_of_getElem? (i := 713) rfl)⟩, by decide +kernel⟩
set_option maxRecDepth 20000 in
theorem zf82 : zmf 82 := ⟨List.mem_append_right _ (List.mem_of_getElem? (i := 441) rfl), List.mem_append_right _ (List.mem_of_getElem? (i := 1) rfl), ⟨List.mem_append_right _ (List.mem_of_getElem? (i := 440) rfl), List.mem_append_left _ (List.mem_of_getElem? (i := 9) rfl)⟩, by decide +kernel⟩
set_option maxRecDepth 20000 in
theorem zf83 : zmf 83 := ⟨List.mem_append_right _ (List.mem_of_getElem? (i := 648) rfl), List.mem_append_right _ (List.mem_of_getElem? (i := 1) rfl), ⟨List.mem_append_right _ (List.mem_of_getElem? (i := 647) rfl), List.mem_append_left _ (List.mem_of_getElem? (i := 21) rfl)⟩, by decide +kernel⟩
set_option maxRecDepth 20000 in
theorem zf84 : zmf 84 := ⟨List.mem_append_right _ (List.mem_of_getElem? (i := 652) rfl), List.mem_append_right _ (List.mem_of_getElem? (i := 1) rfl), ⟨List.mem_append_right _ (List.mem_of_getElem? (i := 651) rfl), List.mem_append_left _ (List.mem_of_getElem? (i := 22) rfl)⟩, by decide +kernel⟩
set_option maxRecDepth 20000 in
theorem zf85 : zmf 85 := ⟨List.mem_append_right _ (List.mem_of_getElem? (i := 669) rfl), List.mem_append_right _ (List.mem_of_getElem? (i := 1) rfl), ⟨List.mem_append_right _ (List.mem_of_getElem? (i := 668) rfl), List.mem_append_left _ (List.mem_of_getElem? (i := 23) rfl)⟩, by decide +kernel⟩
set_option maxRecDepth 20000 in
theorem zf86 : zmf 86 := ⟨List.mem_append_right _ (List.mem_of_getElem? (i := 673) rfl), List.mem_append_right _ (List.mem_of_getElem? (i := 1) rfl), ⟨List.mem_append_right _ (List.mem_of_getElem? (i := 672) rfl), List.mem_append_left _ (List.mem_of_getElem? (i := 24) rfl)⟩, by decide +kernel⟩
set_option maxRecDepth 20000 in
theorem zf87 : zmf 87 := ⟨List.mem_append_right _ (List.mem_of_getElem? (i := 678) rfl), List.mem_append_right _ (List.mem_of_getElem? (i := 1) rfl), ⟨List.mem_append_right _ (List.mem_of_getElem? (i := 677) rfl), List.mem_append_left _ (List.mem_of_getElem? (i := 25) rfl)⟩, by decide +kernel⟩
set_option maxRecDepth 20000 in
theorem zf88 : zmf 88 := ⟨List.mem_append_right _ (List.mem_of_getElem? (i := 683) rfl), List.mem_append_right _ (List.mem_of_getElem? (i := 1) rfl), ⟨List.mem_append_right _ (List.mem_of_getElem? (i := 682) rfl), List.mem_append_left _ (List.mem_of_getElem? (i := 26) rfl)⟩, by decide +kernel⟩
set_option maxRecDepth 20000 in
theorem zf89 : zmf 89 := ⟨List.mem_append_right _ (List.mem_of_getElem? (i := 688) rfl), List.mem_append_right _ (List.mem_of_getElem? (i := 1) rfl), ⟨List.mem_append_right _ (List.mem_of_getElem? (i := 687) rfl), List.mem_append_left _ (List.mem_of_getElem? (i := 27) rfl)⟩, by decide +kernel⟩
set_option maxRecDepth 20000 in
theorem zf90 : zmf 90 := ⟨List.mem_append_right _ (List.mem_of_getElem? (i := 693) rfl), List.mem_append_right _ (List.mem_of_getElem? (i := 1) rfl), ⟨List.mem_append_right _ (List.mem_of_getElem? (i := 692) rfl), List.mem_append_left _ (List.mem_of_getElem? (i := 28) rfl)⟩, by decide +kernel⟩
set_option maxRecDepth 20000 in
theorem zf91 : zmf 91 := ⟨List.mem_append_right _ (List.mem_of_getElem? (i := 813) rfl), List.mem_append_right _ (List.mem_of_getElem? (i := 9) rfl), List.mem_append_right _ (List.mem_of_getElem? (i := 812) rfl), by decide +kernel⟩
set_option maxRecDepth 20000 in
theorem zf92 : zmf 92 := ⟨List.mem_append_right _ (List.mem_of_getElem? (i := 947) rfl), List.mem_append_right _ (List.mem_of_getElem? (i := 9) rfl), List.mem_append_right _ (List.mem_of_getElem? (i := 946) rfl), by decide +kernel⟩
set_option maxRecDepth 20000 in
theorem zf93 : zmf 93 := ⟨List.mem_append_right _ (List.mem_of_getElem? (i := 954) rfl), List.mem_append_right _ (List.mem_of_getElem? (i := 9) rfl), List.mem_append_right _ (List.mem_of_getElem? (i := 953) rfl), by decide +kernel⟩
set_option maxRecDepth 20000 in
theorem zf94 : zmf 94 := ⟨List.mem_append_right _ (List.mem_of_getElem? (i := 848) rfl), List.mem_append_right _ (List.mem_of_getElem? (i := 9) rfl), List.mem_append_right _ (List.mem_of_getElem? (i := 847) rfl), by decide +kernel⟩
set_option maxRecDepth 20000 in
theorem zf95 : zmf 95 := ⟨List.mem_append_right _ (List.mem_of_getElem? (i := 858) rfl), List.mem_append_right _ (List.mem_of_getElem? (i := 9) rfl), ⟨List.mem_append_right _ (List.mem_of_getElem? (i := 857) rfl), List.mem_append_left _ (List.mem_of_getElem? (i := 33) rfl)⟩, by decide +kernel⟩
set_option maxRecDepth 20000 in
theorem zf96 : zmf 96 := ⟨List.mem_append_right _ (List.mem_of_getElem? (i := 867) rfl), List.mem_append_right _ (List.mem_of_getElem? (i := 9) rfl), ⟨List.mem_append_right _ (List.mem_of_getElem? (i := 866) rfl), List.mem_append_left _ (List.mem_of_getElem? (i := 34) rfl)⟩, by decide +kernel⟩
set_option maxRecDepth 20000 in
theorem zf97 : zmf 97 := ⟨List.mem_append_right _ (List.mem_of_getElem? (i := 809) rfl), List.mem_append_right _ (List.mem_of_getElem? (i := 9) rfl), ⟨List.mem_append_right _ (List.mem_of_getElem? (i := 807) rfl), List.mem_append_right _ (List.mem_of_getElem? (i := 808) rfl)⟩, by decide +kernel⟩
set_option maxRecDepth 20000 in
theorem zf98 : zmf 98 := ⟨List.mem_append_right _ (List.mem_of_getElem? (i := 818) rfl), List.mem_append_right _ (List.mem_of_getElem? (i := 9) rfl), ⟨List.mem_append_right _ (List.mem_of_getElem? (i := 816) rfl), List.mem_append_right _ (List.mem_of_getElem? (i := 817) rfl)⟩, by decide +kernel⟩
set_option maxRecDepth 20000 in
theorem zf99 : zmf 99 := ⟨List.mem_append_right _ (List.mem_of_getElem? (i := 826) rfl), List.mem_append_right _ (List.mem_of_getElem? (i := 9) rfl), ⟨List.mem_append_right _ (List.mem_of_getElem? (i := 825) rfl), List.mem_append_left _ (List.mem_of_getElem? (i := 29) rfl)⟩, by decide +kernel⟩
set_option maxRecDepth 20000 in
theorem zf100 : zmf 100 := ⟨List.mem_append_right _ (List.mem_of_getElem? (i := 843) rfl), List.mem_append_right _ (List.mem_of_getElem? (i := 9) rfl), ⟨List.mem_append_right _ (List.mem_of_getElem? (i := 842) rfl), List.mem_append_left _ (List.mem_of_getElem? (i := 32) rfl)⟩, by decide +kernel⟩
set_option maxRecDepth 20000 in
theorem zf101 : zmf 101 := ⟨List.mem_append_right _ (List.mem_of_getElem? (i := 834) rfl), List.mem_append_right _ (List.mem_of_getElem? (i := 9) rfl), ⟨List.mem_append_right _ (List.mem_of_getElem? (i := 833) rfl), List.mem_append_left _ (List.mem_of_getElem? (i := 31) rfl)⟩, by decide +kernel⟩
set_option maxRecDepth 20000 in
theorem zf102 : zmf 102 := ⟨List.mem_append_right _ (List.mem_of_getElem? (i := 830) rfl), List.mem_append_right _ (List.mem_of_getElem? (i := 9) rfl), ⟨List.mem_append_right _ (List.mem_of_getElem? (i := 829) rfl), List.mem_append_left _ (List.mem_of_getElem? (i := 30) rfl)⟩, by decide +kernel⟩
set_option maxRecDepth 20000 in
theorem zf103 : zmf 103 := ⟨List.mem_append_right _ (List.mem_of_getElem? (i := 822) rfl), List.mem_append_right _ (List.mem_of_getElem? (i := 9) rfl), ⟨List.mem_append_right _ (List.mem_of_getElem? (i := 820) rfl), List.mem_append_right _ (List.mem_of_getElem? (i := 821) rfl)⟩, by decide +kernel⟩
set_option maxRecDepth 20000 in
theorem zf104 : zmf 104 := ⟨List.mem_append_right _ (List.mem_of_getElem? (i := 854) rfl), List.mem_append_right _ (List.mem_of_getElem? (i := 9) rfl), ⟨List.mem_append_right _ (List.mem_of_getElem? (i := 852) rfl), List.mem_append_right _ (List.mem_of_getElem? (i := 853) rfl)⟩, by decide +kernel⟩
set_option maxRecDepth 20000 in
theorem zf105 : zmf 105 := ⟨List.mem_append_right _ (List.mem_of_getElem? (i := 872) rfl), List.mem_append_right _ (List.mem_of_getElem? (i := 9) rfl), ⟨List.mem_append_right _ (List.mem_of_getElem? (i := 871) rfl), List.mem_append_left _ (List.mem_of_getElem? (i := 35) rfl)⟩, by decide +kernel⟩
set_option maxRecDepth 20000 in
theorem zf106 : zmf 106 := ⟨List.mem_append_right _ (List.mem_of_getElem? (i := 863) rfl), List.mem_append_right _ (List.mem_of_getElem? (i := 9) rfl), ⟨List.mem_append_right _ (List.mem_of_getElem? (i := 861) rfl), List.mem_append_right _ (List.mem_of_getElem? (i := 862) rfl)⟩, by decide +kernel⟩
set_option maxRecDepth 20000 in
theorem zf107 : zmf 107 := ⟨List.mem_append_right _ (List.mem_of_getElem? (i := 876) rfl), List.mem_append_right _ (List.mem_of_getElem? (i := 9) rfl), ⟨List.mem_append_right _ (List.mem_of_getElem? (i := 874) rfl), List.mem_append_right _ (List.mem_of_getElem? (i := 875) rfl)⟩, by decide +kernel⟩
set_option maxRecDepth 20000 in
theorem zf108 : zmf 108 := ⟨List.mem_append_right _ (List.mem_of_getElem? (i := 884) rfl), List.mem_append_right _ (List.mem_of_getElem? (i := 9) rfl), ⟨List.mem_append_right _ (List.mem_of_getElem? (i := 883) rfl), List.mem_append_left _ (List.mem_of_getElem? (i := 36) rfl)⟩, by decide +kernel⟩
set_option maxRecDepth 20000 in
theorem zf109 : zmf 109 := ⟨List.mem_append_right _ (List.mem_of_getElem? (i := 896) rfl), List.mem_append_right _ (List.mem_of_getElem? (i := 9) rfl), ⟨List.mem_append_right _ (List.mem_of_getElem? (i := 895) rfl), List.mem_append_left _ (List.mem_of_getElem? (i := 38) rfl)⟩, by decide +kernel⟩
set_option maxRecDepth 20000 in
theorem zf110 : zmf 110 := ⟨List.mem_append_right _ (List.mem_of_getElem? (i := 900) rfl), List.mem_append_right _ (List.mem_of_getElem? (i := 9) rfl), ⟨List.mem_append_right _ (List.mem_of_getElem? (i := 899) rfl), List.mem_append_left _ (List.mem_of_getElem? (i := 39) rfl)⟩, by decide +kernel⟩
set_option maxRecDepth 20000 in
theorem zf111 : zmf 111 := ⟨List.mem_append_right _ (List.mem_of_getElem? (i := 888) rfl), List.mem_append_right _ (List.mem_of_getElem? (i := 9) rfl), ⟨List.mem_append_right _ (List.mem_of_getElem? (i := 887) rfl), List.mem_append_left _ (List.mem_of_getElem? (i := 37) rfl)⟩, by decide +kernel⟩
set_option maxRecDepth 20000 in
theorem zf112 : zmf 112 := ⟨List.mem_append_right _ (List.mem_of_getElem? (i := 880) rfl), List.mem_append_right _ (List.mem_of_getElem? (i := 9) rfl), ⟨List.mem_append_right _ (List.mem_of_getElem? (i := 878) rfl), List.mem_append_right _ (List.mem_of_getElem? (i := 879) rfl)⟩, by decide +kernel⟩
set_option maxRecDepth 20000 in
theorem zf113 : zmf 113 := ⟨List.mem_append_right _ (List.mem_of_getElem? (i := 892) rfl), List.mem_append_right _ (List.mem_of_getElem? (i := 9) rfl), ⟨List.mem_append_right _ (List.mem_of_getElem? (i := 890) rfl), List.mem_append_right _ (List.mem_of_getElem? (i := 891) rfl)⟩, by decide +kernel⟩
set_option maxRecDepth 20000 in
theorem zf114 : zmf 114 := ⟨List.mem_append_right _ (List.mem_of_getElem? (i := 904) rfl), List.mem_append_right _ (List.mem_of_getElem? (i := 9) rfl), ⟨List.mem_append_right _ (List.mem_of_getElem? (i := 902) rfl), List.mem_append_right _ (List.mem_of_getElem? (i := 903) rfl)⟩, by decide +kernel⟩
set_option maxRecDepth 20000 in
theorem zf115 : zmf 115 := ⟨List.mem_append_right _ (List.mem_of_getElem? (i := 908) rfl), List.mem_append_right _ (List.mem_of_getElem? (i := 9) rfl), ⟨List.mem_append_right _ (List.mem_of_getElem? (i := 906) rfl), List.mem_append_right _ (List.mem_of_getElem? (i := 907) rfl)⟩, by decide +kernel⟩
set_option maxRecDepth 20000 in
theorem zf116 : zmf 116 := ⟨List.mem_append_right _ (List.mem_of_getElem? (i := 912) rfl), List.mem_append_right _ (List.mem_of_getElem? (i := 9) rfl), ⟨List.mem_append_right _ (List.mem_of_getElem? (i := 910) rfl), List.mem_append_right _ (List.mem_of_getElem? (i := 911) rfl)⟩, by decide +kernel⟩
set_option maxRecDepth 20000 in
theorem zf117 : zmf 117 := ⟨List.mem_append_right _ (List.mem_of_getElem? (i := 924) rfl), List.mem_append_right _ (List.mem_of_getElem? (i := 9) rfl), ⟨List.mem_append_right _ (List.mem_of_getElem? (i := 923) rfl), List.mem_append_left _ (List.mem_of_getElem? (i := 41) rfl)⟩, by decide +kernel⟩
set_option maxRecDepth 20000 in
theorem zf118 : zmf 118 := ⟨List.mem_append_right _ (List.mem_of_getElem? (i := 920) rfl), List.mem_append_right _ (List.mem_of_getElem? (i := 9) rfl), ⟨List.mem_append_right _ (List.mem_of_getElem? (i := 919) rfl), List.mem_append_left _ (List.mem_of_getElem? (i := 40) rfl)⟩, by decide +kernel⟩
set_option maxRecDepth 20000 in
theorem zf119 : zmf 119 := ⟨List.mem_append_right _ (List.mem_of_getElem? (i := 916) rfl), List.mem_append_right _ (List.mem_of_getElem? (i := 9) rfl), ⟨List.mem_append_right _ (List.mem_of_getElem? (i := 914) rfl), List.mem_append_right _ (List.mem_of_getElem? (i := 915) rfl)⟩, by decide +kernel⟩
set_option maxRecDepth 20000 in
theorem zf120 : zmf 120 := ⟨List.mem_append_right _ (List.mem_of_getElem? (i := 932) rfl), List.mem_append_right _ (List.mem_of_getElem? (i := 9) rfl), ⟨List.mem_append_right _ (List.mem_of_getElem? (i := 931) rfl), List.mem_append_left _ (List.mem_of_getElem? (i := 42) rfl)⟩, by decide +kernel⟩
set_option maxRecDepth 20000 in
theorem zf121 : zmf 121 := ⟨List.mem_append_right _ (List.mem_of_getElem? (i := 928) rfl), List.mem_append_right _ (List.mem_of_getElem? (i := 9) rfl), ⟨List.mem_append_right _ (List.mem_of_getElem? (i := 926) rfl), List.mem_append_right _ (List.mem_of_getElem? (i := 927) rfl)⟩, by decide +kernel⟩
set_option maxRecDepth 20000 in
theorem zf122 : zmf 122 := ⟨List.mem_append_right _ (List.mem_of_getElem? (i := 951) rfl), List.mem_append_right _ (List.mem_of_getElem? (i := 9) rfl), ⟨List.mem_append_right _ (List.mem_of_getElem? (i := 950) rfl), List.mem_append_left _ (List.mem_of_getElem? (i := 45) rfl)⟩, by decide +kernel⟩
set_option maxRecDepth 20000 in
theorem zf123 : zmf 123 := ⟨List.mem_append_right _ (List.mem_of_getElem? (i := 944) rfl), List.mem_append_right _ (List.mem_of_getElem? (i := 9) rfl), ⟨List.mem_append_right _ (List.mem_of_getElem? (i := 943) rfl), List.mem_append_left _ (List.mem_of_getElem? (i := 44) rfl)⟩, by decide +kernel⟩
set_option maxRecDepth 20000 in
theorem zf124 : zmf 124 := ⟨List.mem_append_right _ (List.mem_of_getElem? (i := 940) rfl), List.mem_append_right _ (List.mem_of_getElem? (i := 9) rfl), ⟨List.mem_append_right _ (List.mem_of_getElem? (i := 939) rfl), List.mem_append_left _ (List.mem_of_getElem? (i := 43) rfl)⟩, by decide +kernel⟩
set_option maxRecDepth 20000 in
theorem zf125 : zmf 125 := ⟨List.mem_append_right _ (List.mem_of_getElem? (i := 936) rfl), List.mem_append_right _ (List.mem_of_getElem? (i := 9) rfl), ⟨List.mem_append_right _ (List.mem_of_getElem? (i := 934) rfl), List.mem_append_right _ (List.mem_of_getElem? (i := 935) rfl)⟩, by decide +kernel⟩
set_option maxRecDepth 20000 in
theorem zf126 : zmf 126 := ⟨List.mem_append_right _ (List.mem_of_getElem? (i := 958) rfl), List.mem_append_right _ (List.mem_of_getElem? (i := 9) rfl), ⟨List.mem_append_right _ (List.mem_of_getElem? (i := 956) rfl), List.mem_append_right _ (List.mem_of_getElem? (i := 957) rfl)⟩, by decide +kernel⟩
set_option maxRecDepth 20000 in
theorem zf127 : zmf 127 := ⟨List.mem_append_right _ (List.mem_of_getElem? (i := 969) rfl), List.mem_append_right _ (List.mem_of_getElem? (i := 9) rfl), ⟨List.mem_append_right _ (List.mem_of_getElem? (i := 968) rfl), List.mem_append_left _ (List.mem_of_getElem? (i := 46) rfl)⟩, by decide +kernel⟩
set_option maxRecDepth 20000 in
theorem zf128 : zmf 128 := ⟨List.mem_append_right _ (List.mem_of_getElem? (i := 962) rfl), List.mem_append_right _ (List.mem_of_getElem? (i := 9) rfl), ⟨List.mem_append_right _ (List.mem_of_getElem? (i := 960) rfl), List.mem_append_right _ (List.mem_of_getElem? (i := 961) rfl)⟩, by decide +kernel⟩
set_option maxRecDepth 20000 in
theorem zf129 : zmf 129 := ⟨List.mem_append_right _ (List.mem_of_getElem? (i := 979) rfl), List.mem_append_right _ (List.mem_of_getElem? (i := 9) rfl), ⟨List.mem_append_right _ (List.mem_of_getElem? (i := 978) rfl), List.mem_append_left _ (List.mem_of_getElem? (i := 47) rfl)⟩, by decide +kernel⟩
set_option maxRecDepth 20000 in
theorem zf130 : zmf 130 := ⟨List.mem_append_right _ (List.mem_of_getElem? (i := 983) rfl), List.mem_append_right _ (List.mem_of_getElem? (i := 9) rfl), ⟨List.mem_append_right _ (List.mem_of_getElem? (i := 982) rfl), List.mem_append_left _ (List.mem_of_getElem? (i := 48) rfl)⟩, by decide +kernel⟩
set_option maxRecDepth 20000 in
theorem zf131 : zmf 131 := ⟨List.mem_append_right _ (List.mem_of_getElem? (i := 973) rfl), List.mem_append_right _ (List.mem_of_getElem? (i := 9) rfl), ⟨List.mem_append_right _ (List.mem_of_getElem? (i := 971) rfl), List.mem_append_right _ (List.mem_of_getElem? (i := 972) rfl)⟩, by decide +kernel⟩
set_option maxRecDepth 20000 in
theorem zf132 : zmf 132 := ⟨List.mem_append_right _ (List.mem_of_getElem? (i := 987) rfl), List.mem_append_right _ (List.mem_of_getElem? (i := 9) rfl), ⟨List.mem_append_right _ (List.mem_of_getElem? (i := 985) rfl), List.mem_append_right _ (List.mem_of_getElem? (i := 986) rfl)⟩, by decide +kernel⟩
set_option maxRecDepth 20000 in
theorem zf133 : zmf 133 := ⟨List.mem_append_right _ (List.mem_of_getElem? (i := 1000) rfl), List.mem_append_right _ (List.mem_of_getElem? (i := 9) rfl), ⟨List.mem_append_right _ (List.mem_of_getElem? (i := 999) rfl), List.mem_append_left _ (List.mem_of_getElem? (i := 50) rfl)⟩, by decide +kernel⟩
set_option maxRecDepth 20000 in
theorem zf134 : zmf 134 := ⟨List.mem_append_right _ (List.mem_of_getElem? (i := 996) rfl), List.mem_append_right _ (List.mem_of_getElem? (i := 9) rfl), ⟨List.mem_append_right _ (List.mem_of_getElem? (i := 995) rfl), List.mem_append_left _ (List.mem_of_getElem? (i := 49) rfl)⟩, by decide +kernel⟩
set_option maxRecDepth 20000 in
theorem zf135 : zmf 135 := ⟨List.mem_append_right _ (List.mem_of_getElem? (i := 992) rfl), List.mem_append_right _ (List.mem_of_getElem? (i := 9) rfl), ⟨List.mem_append_right _ (List.mem_of_getElem? (i := 990) rfl), List.mem_append_right _ (List.mem_of_getElem? (i := 991) rfl)⟩, by decide +kernel⟩
set_option maxRecDepth 20000 in
theorem zf136 : zmf 136 := ⟨List.mem_append_right _ (List.mem_of_getElem? (i := 1004) rfl), List.mem_append_right _ (List.mem_of_getElem? (i := 9) rfl), ⟨List.mem_append_right _ (List.mem_of_getElem? (i := 1002) rfl), List.mem_append_right _ (List.mem_of_getElem? (i := 1003) rfl)⟩, by decide +kernel⟩
set_option maxRecDepth 20000 in
theorem zf137 : zmf 137 := ⟨List.mem_append_right _ (List.mem_of_getElem? (i := 1009) rfl), List.mem_append_right _ (List.mem_of_getElem? (i := 9) rfl), ⟨List.mem_append_right _ (List.mem_of_getElem? (i := 1007) rfl), List.mem_append_right _ (List.mem_of_getElem? (i := 1008) rfl)⟩, by decide +kernel⟩
set_option maxRecDepth 20000 in
theorem zf138 : zmf 138 := ⟨List.mem_append_right _ (List.mem_of_getElem? (i := 1018) rfl), List.mem_append_right _ (List.mem_of_getElem? (i := 9) rfl), ⟨List.mem_append_right _ (List.mem_of_getElem? (i := 1017) rfl), List.mem_append_left _ (List.mem_of_getElem? (i := 51) rfl)⟩, by decide +kernel⟩
set_option maxRecDepth 20000 in
theorem zf139 : zmf 139 := ⟨List.mem_append_right _ (List.mem_of_getElem? (i := 1013) rfl), List.mem_append_right _ (List.mem_of_getElem? (i := 9) rfl), ⟨List.mem_append_right _ (List.mem_of_getElem? (i := 1011) rfl), List.mem_append_right _ (List.mem_of_getElem? (i := 1012) rfl)⟩, by decide +kernel⟩
set_option maxRecDepth 20000 in
theorem zf140 : zmf 140 := ⟨List.mem_append_right _ (List.mem_of_getElem? (i := 1022) rfl), List.mem_append_right _ (List.mem_of_getElem? (i := 9) rfl), ⟨List.mem_append_right _ (List.mem_of_getElem? (i := 1020) rfl), List.mem_append_right _ (List.mem_of_getElem? (i := 1021) rfl)⟩, by decide +kernel⟩
set_option maxRecDepth 20000 in
theorem zf141 : zmf 141 := ⟨List.mem_append_right _ (List.mem_of_getElem? (i := 1035) rfl), List.mem_append_right _ (List.mem_of_getElem? (i := 9) rfl), ⟨List.mem_append_right _ (List.mem_of_getElem? (i := 1034) rfl), List.mem_append_left _ (List.mem_of_getElem? (i := 52) rfl)⟩, by decide +kernel⟩
set_option maxRecDepth 20000 in
theorem zf142 : zmf 142 := ⟨List.mem_append_right _ (List.mem_of_getElem? (i := 1031) rfl), List.mem_append_right _ (List.mem_of_getElem? (i := 9) rfl), ⟨List.mem_append_right _ (List.mem_of_getElem? (i := 1029) rfl), List.mem_append_right _ (List.mem_of_getElem? (i := 1030) rfl)⟩, by decide +kernel⟩
set_option maxRecDepth 20000 in
theorem zf143 : zmf 143 := ⟨List.mem_append_right _ (List.mem_of_getElem? (i := 1039) rfl), List.mem_append_right _ (List.mem_of_getElem? (i := 9) rfl), ⟨List.mem_append_right _ (List.mem_of_getElem? (i := 1037) rfl), List.mem_append_right _ (List.mem_of_getElem? (i := 1038) rfl)⟩, by decide +kernel⟩
set_option maxRecDepth 20000 in
theorem zf144 : zmf 144 := ⟨List.mem_append_right _ (List.mem_of_getElem? (i := 1043) rfl), List.mem_append_right _ (List.mem_of_getElem? (i := 9) rfl), ⟨List.mem_append_right _ (List.mem_of_getElem? (i := 1041) rfl), List.mem_append_right _ (List.mem_of_getElem? (i := 1042) rfl)⟩, by decide +kernel⟩
set_option maxRecDepth 20000 in
theorem zf145 : zmf 145 := ⟨List.mem_append_right _ (List.mem_of_getElem? (i := 1047) rfl), List.mem_append_right _ (List.mem_of_getElem? (i := 9) rfl), ⟨List.mem_append_right _ (List.mem_of_getElem? (i := 1045) rfl), List.mem_append_right _ (List.mem_of_getElem? (i := 1046) rfl)⟩, by decide +kernel⟩
set_option maxRecDepth 20000 in
theorem zf146 : zmf 146 := ⟨List.mem_append_right _ (List.mem_of_getElem? (i := 536) rfl), List.mem_append_right _ (List.mem_of_getElem? (i := 16) rfl), List.mem_append_right _ (List.mem_of_getElem? (i := 535) rfl), by decide +kernel⟩
set_option maxRecDepth 20000 in
theorem zf147 : zmf 147 := ⟨List.mem_append_right _ (List.mem_of_getElem? (i := 136) rfl), List.mem_append_right _ (List.mem_of_getElem? (i := 5) rfl), List.mem_append_right _ (List.mem_of_getElem? (i := 135) rfl), by decide +kernel⟩
set_option maxRecDepth 20000 in
theorem zf148 : zmf 148 := ⟨List.mem_append_right _ (List.mem_of_getElem? (i := 327) rfl), List.mem_append_right _ (List.mem_of_getElem? (i := 11) rfl), ⟨List.mem_append_right _ (List.mem_of_getElem? (i := 325) rfl), List.mem_append_right _ (List.mem_of_getElem? (i := 326) rfl)⟩, by decide +kernel⟩
set_option maxRecDepth 20000 in
theorem zf149 : zmf 149 := ⟨List.mem_append_right _ (List.mem_of_getElem? (i := 337) rfl), List.mem_append_right _ (List.mem_of_getElem? (i := 11) rfl), ⟨List.mem_append_right _ (List.mem_of_getElem? (i := 335) rfl), List.mem_append_right _ (List.mem_of_getElem? (i := 336) rfl)⟩, by decide +kernel⟩
theorem zfs : ∀ m, m < 150 → zmf m := by
  intro m h
  match m, h with
  | 0, _ => exact zf0
  | 1, _ => exact zf1
  | 2, _ => exact zf2
  | 3, _ => exact zf3
  | 4, _ => exact zf4
  | 5, _ => exact zf5
  | 6, _ => exact zf6
  | 7, _ => exact zf7
  | 8, _ => exact zf8
  | 9, _ => exact zf9
  | 10, _ => exact zf10
  | 11, _ => exact zf11
  | 12, _ => exact zf12
  | 13, _ => exact zf13
  | 14, _ => exact zf14
  | 15, _ => exact zf15
  | 16, _ => exact zf16
  | 17, _ => exact zf17
  | 18, _ => exact zf18
  | 19, _ => exact zf19
  | 20, _ => exact zf20
  | 21, _ => exact zf21
  | 22, _ => exact zf22
  | 23, _ => exact zf23
  | 24, _ => exact zf24
  | 25, _ => exact zf25
  | 26, _ => exact zf26
  | 27, _ => exact zf27
  | 28, _ => exact zf28
  | 29, _ => exact zf29
  | 30, _ => exact zf30
  | 31, _ => exact zf31
  | 32, _ => exact zf32
  | 33, _ => exact zf33
  | 34, _ => exact zf34
  | 35, _ => exact zf35
  | 36, _ => exact zf36
  | 37, _ => exact zf37
  | 38, _ => exact zf38
  | 39, _ => exact zf39
  | 40, _ => exact zf40
  | 41, _ => exact zf41
  | 42, _ => exact zf42
  | 43, _ => exact zf43
  | 44, _ => exact zf44
  | 45, _ => exact zf45
  | 46, _ => exact zf46
  | 47, _ => exact zf47
  | 48, _ => exact zf48
  | 49, _ => exact zf49
  | 50, _ => exact zf50
  | 51, _ => exact zf51
  | 52, _ => exact zf52
  | 53, _ => exact zf53
  | 54, _ => exact zf54
  | 55, _ => exact zf55
  | 56, _ => exact zf56
  | 57, _ => exact zf57
  | 58, _ => exact zf58
  | 59, _ => exact zf59
  | 60, _ => exact zf60
  | 61, _ => exact zf61
  | 62, _ => exact zf62
  | 63, _ => exact zf63
  | 64, _ => exact zf64
  | 65, _ => exact zf65
  | 66, _ => exact zf66
  | 67, _ => exact zf67
  | 68, _ => exact zf68
  | 69, _ => exact zf69
  | 70, _ => exact zf70
  | 71, _ => exact zf71
  | 72, _ => exact zf72
  | 73, _ => exact zf73
  | 74, _ => exact zf74
  | 75, _ => exact zf75
  | 76, _ => exact zf76
  | 77, _ => exact zf77
  | 78, _ => exact zf78
  | 79, _ => exact zf79
  | 80, _ => exact zf80
  | 81, _ => exact zf81
  | 82, _ => exact zf82
  | 83, _ => exact zf83
  | 84, _ => exact zf84
  | 85, _ => exact zf85
  | 86, _ => exact zf86
  | 87, _ => exact zf87
  | 88, _ => exact zf88
  | 89, _ => exact zf89
  | 90, _ => exact zf90
  | 91, _ => exact zf91
  | 92, _ => exact zf92
  | 93, _ => exact zf93
  | 94, _ => exact zf94
  | 95, _ => exact zf95
  | 96, _ => exact zf96
  | 97, _ => exact zf97
  | 98, _ => exact zf98
  | 99, _ => exact zf99
  | 100, _ => exact zf100
  | 101, _ => exact zf101
  | 102, _ => exact zf102
  | 103, _ => exact zf103
  | 104, _ => exact zf104
  | 105, _ => exact zf105
  | 106, _ => exact zf106
  | 107, _ => exact zf107
  | 108, _ => exact zf108
  | 109, _ => exact zf109
  | 110, _ => exact zf110
  | 111, _ => exact zf111
  | 112, _ => exact zf112
  | 113, _ => exact zf113
  | 114, _ => exact zf114
  | 115, _ => exact zf115
  | 116, _ => exact zf116
  | 117, _ => exact zf117
  | 118, _ => exact zf118
  | 119, _ => exact zf119
  | 120, _ => exact zf120
  | 121, _ => exact zf121
  | 122, _ => exact zf122
  | 123, _ => exact zf123
  | 124, _ => exact zf124
  | 125, _ => exact zf125
  | 126, _ => exact zf126
  | 127, _ => exact zf127
  | 128, _ => exact zf128
  | 129, _ => exact zf129
  | 130, _ => exact zf130
  | 131, _ => exact zf131
  | 132, _ => exact zf132
  | 133, _ => exact zf133
  | 134, _ => exact zf134
  | 135, _ => exact zf135
  | 136, _ => exact zf136
  | 137, _ => exact zf137
  | 138, _ => exact zf138
  | 139, _ => exact zf139
  | 140, _ => exact zf140
  | 141, _ => exact zf141
  | 142, _ => exact zf142
  | 143, _ => exact zf143
  | 144, _ => exact zf144
  | 145, _ => exact zf145
  | 146, _ => exact zf146
  | 147, _ => exact zf147
  | 148, _ => exact zf148
  | 149, _ => exact zf149
  | k + 150, h => omega
theorem zall_of {m : Nat} {l : List (Nat × zIn)} {x y : Nat} (h : ((l.drop x).take y).all (zok m) = true) (h2 : ∀ q ∈ l.drop (x + y), zok m q = true) : ∀ q ∈ l.drop x, zok m q = true := by
  intro q hq
  rw [← List.take_append_drop y (l.drop x)] at hq
  rcases List.mem_append.mp hq with a | a
  · exact List.all_eq_true.mp h q a
  · rw [List.drop_drop] at a
    exact h2 q a
theorem zall_end {m : Nat} {l : List (Nat × zIn)} {x : Nat} (h : l.length ≤ x) : ∀ q ∈ l.drop x, zok m q = true := by
  intro q hq
  rw [List.drop_eq_nil_of_le h] at hq
  cases hq
set_option maxRecDepth 20000 in
theorem za0 : ∀ q ∈ zt0, zok 0 q = true := by
  have h := zall_of zc0_0 (zall_end (by decide))
  simpa using h
set_option maxRecDepth 20000 in
theorem za1 : ∀ q ∈ zt1, zok 1 q = true := by
  have h := zall_of zc1_0 (zall_end (by decide))
  simpa using h
set_option maxRecDepth 20000 in
theorem za2 : ∀ q ∈ zt2, zok 2 q = true := by
  have h := zall_of zc2_0 (zall_end (by decide))
  simpa using h
set_option maxRecDepth 20000 in
theorem za3 : ∀ q ∈ zt3, zok 3 q = true := by
  have h := zall_of zc3_0 (zall_end (by decide))
  simpa using h
set_option maxRecDepth 20000 in
theorem za4 : ∀ q ∈ zt4, zok 4 q = true := by
  have h := zall_of zc4_0 (zall_end (by decide))
  simpa using h
set_option maxRecDepth 20000 in
theorem za5 : ∀ q ∈ zt5, zok 5 q = true := by
  have h := zall_of zc5_0 (zall_end (by decide))
  simpa using h
set_option maxRecDepth 20000 in
theorem za6 : ∀ q ∈ zt6, zok 6 q = true := by
  have h := zall_of zc6_0 (zall_end (by decide))
  simpa using h
set_option maxRecDepth 20000 in
theorem za7 : ∀ q ∈ zt7, zok 7 q = true := by
  have h := zall_of zc7_0 (zall_end (by decide))
  simpa using h
set_option maxRecDepth 20000 in
theorem za8 : ∀ q ∈ zt8, zok 8 q = true := by
  have h := zall_of zc8_0 (zall_end (by decide))
  simpa using h
set_option maxRecDepth 20000 in
theorem za9 : ∀ q ∈ zt9, zok 9 q = true := by
  have h := zall_of zc9_0 (zall_end (by decide))
  simpa using h
set_option maxRecDepth 20000 in
theorem za10 : ∀ q ∈ zt10, zok 10 q = true := by
  have h := zall_of zc10_0 (zall_end (by decide))
  simpa using h
set_option maxRecDepth 20000 in
theorem za11 : ∀ q ∈ zt11, zok 11 q = true := by
  have h := zall_of zc11_0 (zall_end (by decide))
  simpa using h
set_option maxRecDepth 20000 in
theorem za12 : ∀ q ∈ zt12, zok 12 q = true := by
  have h := zall_of zc12_0 (zall_end (by decide))
  simpa using h
set_option maxRecDepth 20000 in
theorem za13 : ∀ q ∈ zt13, zok 13 q = true := by
  have h := zall_of zc13_0 (zall_end (by decide))
  simpa using h
set_option maxRecDepth 20000 in
theorem za14 : ∀ q ∈ zt14, zok 14 q = true := by
  have h := zall_of zc14_0 (zall_end (by decide))
  simpa using h
set_option maxRecDepth 20000 in
theorem za15 : ∀ q ∈ zt15, zok 15 q = true := by
  have h := zall_of zc15_0 (zall_end (by decide))
  simpa using h
set_option maxRecDepth 20000 in
theorem za16 : ∀ q ∈ zt16, zok 16 q = true := by
  have h := zall_of zc16_0 (zall_end (by decide))
  simpa using h
set_option maxRecDepth 20000 in
theorem za17 : ∀ q ∈ zt17, zok 17 q = true := by
  have h := zall_of zc17_0 (zall_end (by decide))
  simpa using h
set_option maxRecDepth 20000 in
theorem za18 : ∀ q ∈ zt18, zok 18 q = true := by
  have h := zall_of zc18_0 (zall_end (by decide))
  simpa using h
set_option maxRecDepth 20000 in
theorem za19 : ∀ q ∈ zt19, zok 19 q = true := by
  have h := zall_of zc19_0 (zall_end (by decide))
  simpa using h
set_option maxRecDepth 20000 in
theorem za20 : ∀ q ∈ zt20, zok 20 q = true := by
  have h := zall_of zc20_0 (zall_of zc20_60 (zall_end (by decide)))
  simpa using h
set_option maxRecDepth 20000 in
theorem za21 : ∀ q ∈ zt21, zok 21 q = true := by
  have h := zall_of zc21_0 (zall_end (by decide))
  simpa using h
set_option maxRecDepth 20000 in
theorem za22 : ∀ q ∈ zt22, zok 22 q = true := by
  have h := zall_of zc22_0 (zall_end (by decide))
  simpa using h
set_option maxRecDepth 20000 in
theorem za23 : ∀ q ∈ zt23, zok 23 q = true := by
  have h := zall_of zc23_0 (zall_end (by decide))
  simpa using h
set_option maxRecDepth 20000 in
theorem za24 : ∀ q ∈ zt24, zok 24 q = true := by
  have h := zall_of zc24_0 (zall_end (by decide))
  simpa using h
set_option maxRecDepth 20000 in
theorem za25 : ∀ q ∈ zt25, zok 25 q = true := by
  have h := zall_of zc25_0 (zall_end (by decide))
  simpa using h
set_option maxRecDepth 20000 in
theorem za26 : ∀ q ∈ zt26, zok 26 q = true := by
  have h := zall_of zc26_0 (zall_end (by decide))
  simpa using h
set_option maxRecDepth 20000 in
theorem za27 : ∀ q ∈ zt27, zok 27 q = true := by
  have h := zall_of zc27_0 (zall_of zc27_60 (zall_end (by decide)))
  simpa using h
set_option maxRecDepth 20000 in
theorem za28 : ∀ q ∈ zt28, zok 28 q = true := by
  have h := zall_of zc28_0 (zall_of zc28_60 (zall_end (by decide)))
  simpa using h
set_option maxRecDepth 20000 in
theorem za29 : ∀ q ∈ zt29, zok 29 q = true := by
  have h := zall_of zc29_0 (zall_of zc29_60 (zall_end (by decide)))
  simpa using h
set_option maxRecDepth 20000 in
theorem za30 : ∀ q ∈ zt30, zok 30 q = true := by
  have h := zall_of zc30_0 (zall_end (by decide))
  simpa using h
set_option maxRecDepth 20000 in
theorem za31 : ∀ q ∈ zt31, zok 31 q = true := by
  have h := zall_of zc31_0 (zall_end (by decide))
  simpa using h
set_option maxRecDepth 20000 in
theorem za32 : ∀ q ∈ zt32, zok 32 q = true := by
  have h := zall_of zc32_0 (zall_end (by decide))
  simpa using h
set_option maxRecDepth 20000 in
theorem za33 : ∀ q ∈ zt33, zok 33 q = true := by
  have h := zall_of zc33_0 (zall_end (by decide))
  simpa using h
set_option maxRecDepth 20000 in
theorem za34 : ∀ q ∈ zt34, zok 34 q = true := by
  have h := zall_of zc34_0 (zall_end (by decide))
  simpa using h
set_option maxRecDepth 20000 in
theorem za35 : ∀ q ∈ zt35, zok 35 q = true := by
  have h := zall_of zc35_0 (zall_end (by decide))
  simpa using h
set_option maxRecDepth 20000 in
theorem za36 : ∀ q ∈ zt36, zok 36 q = true := by
  have h := zall_of zc36_0 (zall_end (by decide))
  simpa using h
set_option maxRecDepth 20000 in
theorem za37 : ∀ q ∈ zt37, zok 37 q = true := by
  have h := zall_of zc37_0 (zall_end (by decide))
  simpa using h
set_option maxRecDepth 20000 in
theorem za38 : ∀ q ∈ zt38, zok 38 q = true := by
  have h := zall_of zc38_0 (zall_end (by decide))
  simpa using h
set_option maxRecDepth 20000 in
theorem za39 : ∀ q ∈ zt39, zok 39 q = true := by
  have h := zall_of zc39_0 (zall_end (by decide))
  simpa using h
set_option maxRecDepth 20000 in
theorem za40 : ∀ q ∈ zt40, zok 40 q = true := by
  have h := zall_of zc40_0 (zall_end (by decide))
  simpa using h
set_option maxRecDepth 20000 in
theorem za41 : ∀ q ∈ zt41, zok 41 q = true := by
  have h := zall_of zc41_0 (zall_end (by decide))
  simpa using h
set_option maxRecDepth 20000 in
theorem za42 : ∀ q ∈ zt42, zok 42 q = true := by
  have h := zall_of zc42_0 (zall_end (by decide))
  simpa using h
set_option maxRecDepth 20000 in
theorem za43 : ∀ q ∈ zt43, zok 43 q = true := by
  have h := zall_of zc43_0 (zall_of zc43_60 (zall_end (by decide)))
  simpa using h
set_option maxRecDepth 20000 in
theorem za44 : ∀ q ∈ zt44, zok 44 q = true := by
  have h := zall_of zc44_0 (zall_of zc44_60 (zall_end (by decide)))
  simpa using h
set_option maxRecDepth 20000 in
theorem za45 : ∀ q ∈ zt45, zok 45 q = true := by
  have h := zall_of zc45_0 (zall_end (by decide))
  simpa using h
set_option maxRecDepth 20000 in
theorem za46 : ∀ q ∈ zt46, zok 46 q = true := by
  have h := zall_of zc46_0 (zall_end (by decide))
  simpa using h
set_option maxRecDepth 20000 in
theorem za47 : ∀ q ∈ zt47, zok 47 q = true := by
  have h := zall_of zc47_0 (zall_end (by decide))
  simpa using h
set_option maxRecDepth 20000 in
theorem za48 : ∀ q ∈ zt48, zok 48 q = true := by
  have h := zall_of zc48_0 (zall_end (by decide))
  simpa using h
set_option maxRecDepth 20000 in
theorem za49 : ∀ q ∈ zt49, zok 49 q = true := by
  have h := zall_of zc49_0 (zall_end (by decide))
  simpa using h
set_option maxRecDepth 20000 in
theorem za50 : ∀ q ∈ zt50, zok 50 q = true := by
  have h := zall_of zc50_0 (zall_end (by decide))
  simpa using h
set_option maxRecDepth 20000 in
theorem za51 : ∀ q ∈ zt51, zok 51 q = true := by
  have h := zall_of zc51_0 (zall_end (by decide))
  simpa using h
set_option maxRecDepth 20000 in
theorem za52 : ∀ q ∈ zt52, zok 52 q = true := by
  have h := zall_of zc52_0 (zall_end (by decide))
  simpa using h
set_option maxRecDepth 20000 in
theorem za53 : ∀ q ∈ zt53, zok 53 q = true := by
  have h := zall_of zc53_0 (zall_end (by decide))
  simpa using h
set_option maxRecDepth 20000 in
theorem za54 : ∀ q ∈ zt54, zok 54 q = true := by
  have h := zall_of zc54_0 (zall_end (by decide))
  simpa using h
set_option maxRecDepth 20000 in
theorem za55 : ∀ q ∈ zt55, zok 55 q = true := by
  have h := zall_of zc55_0 (zall_end (by decide))
  simpa using h
set_option maxRecDepth 20000 in
theorem za56 : ∀ q ∈ zt56, zok 56 q = true := by
  have h := zall_of zc56_0 (zall_end (by decide))
  simpa using h
set_option maxRecDepth 20000 in
theorem za57 : ∀ q ∈ zt57, zok 57 q = true := by
  have h := zall_of zc57_0 (zall_end (by decide))
  simpa using h
set_option maxRecDepth 20000 in
theorem za58 : ∀ q ∈ zt58, zok 58 q = true := by
  have h := zall_of zc58_0 (zall_end (by decide))
  simpa using h
set_option maxRecDepth 20000 in
theorem za59 : ∀ q ∈ zt59, zok 59 q = true := by
  have h := zall_of zc59_0 (zall_of zc59_60 (zall_end (by decide)))
  simpa using h
set_option maxRecDepth 20000 in
theorem za60 : ∀ q ∈ zt60, zok 60 q = true := by
  have h := zall_of zc60_0 (zall_end (by decide))
  simpa using h
set_option maxRecDepth 20000 in
theorem za61 : ∀ q ∈ zt61, zok 61 q = true := by
  have h := zall_of zc61_0 (zall_of zc61_60 (zall_end (by decide)))
  simpa using h
set_option maxRecDepth 20000 in
theorem za62 : ∀ q ∈ zt62, zok 62 q = true := by
  have h := zall_of zc62_0 (zall_end (by decide))
  simpa using h
set_option maxRecDepth 20000 in
theorem za63 : ∀ q ∈ zt63, zok 63 q = true := by
  have h := zall_of zc63_0 (zall_end (by decide))
  simpa using h
set_option maxRecDepth 20000 in
theorem za64 : ∀ q ∈ zt64, zok 64 q = true := by
  have h := zall_of zc64_0 (zall_of zc64_60 (zall_end (by decide)))
  simpa using h
set_option maxRecDepth 20000 in
theorem za65 : ∀ q ∈ zt65, zok 65 q = true := by
  have h := zall_of zc65_0 (zall_end (by decide))
  simpa using h
set_option maxRecDepth 20000 in
theorem za66 : ∀ q ∈ zt66, zok 66 q = true := by
  have h := zall_of zc66_0 (zall_end (by decide))
  simpa using h
set_option maxRecDepth 20000 in
theorem za67 : ∀ q ∈ zt67, zok 67 q = true := by
  have h := zall_of zc67_0 (zall_end (by decide))
  simpa using h
set_option maxRecDepth 20000 in
theorem za68 : ∀ q ∈ zt68, zok 68 q = true := by
  have h := zall_of zc68_0 (zall_end (by decide))
  simpa using h
set_option maxRecDepth 20000 in
theorem za69 : ∀ q ∈ zt69, zok 69 q = true := by
  have h := zall_of zc69_0 (zall_end (by decide))
  simpa using h
set_option maxRecDepth 20000 in
theorem za70 : ∀ q ∈ zt70, zok 70 q = true := by
  have h := zall_of zc70_0 (zall_end (by decide))
  simpa using h
set_option maxRecDepth 20000 in
theorem za71 : ∀ q ∈ zt71, zok 71 q = true := by
  have h := zall_of zc71_0 (zall_end (by decide))
  simpa using h
set_option maxRecDepth 20000 in
theorem za72 : ∀ q ∈ zt72, zok 72 q = true := by
  have h := zall_of zc72_0 (zall_end (by decide))
  simpa using h
set_option maxRecDepth 20000 in
theorem za73 : ∀ q ∈ zt73, zok 73 q = true := by
  have h := zall_of zc73_0 (zall_end (by decide))
  simpa using h
set_option maxRecDepth 20000 in
theorem za74 : ∀ q ∈ zt74, zok 74 q = true := by
  have h := zall_of zc74_0 (zall_end (by decide))
  simpa using h
set_option maxRecDepth 20000 in
theorem za75 : ∀ q ∈ zt75, zok 75 q = true := by
  have h := zall_of zc75_0 (zall_end (by decide))
  simpa using h
set_option maxRecDepth 20000 in
theorem za76 : ∀ q ∈ zt76, zok 76 q = true := by
  have h := zall_of zc76_0 (zall_of zc76_60 (zall_end (by decide)))
  simpa using h
set_option maxRecDepth 20000 in
theorem za77 : ∀ q ∈ zt77, zok 77 q = true := by
  have h := zall_of zc77_0 (zall_end (by decide))
  simpa using h
set_option maxRecDepth 20000 in
theorem za78 : ∀ q ∈ zt78, zok 78 q = true := by
  have h := zall_of zc78_0 (zall_end (by decide))
  simpa using h
set_option maxRecDepth 20000 in
theorem za79 : ∀ q ∈ zt79, zok 79 q = true := by
  have h := zall_of zc79_0 (zall_end (by decide))
  simpa using h
set_option maxRecDepth 20000 in
theorem za80 : ∀ q ∈ zt80, zok 80 q = true := by
  have h := zall_of zc80_0 (zall_end (by decide))
  simpa using h
set_option maxRecDepth 20000 in
theorem za81 : ∀ q ∈ zt81, zok 81 q = true := by
  have h := zall_of zc81_0 (zall_end (by decide))
  simpa using h
set_option maxRecDepth 20000 in
theorem za82 : ∀ q ∈ zt82, zok 82 q = true := by
  have h := zall_of zc82_0 (zall_end (by decide))
  simpa using h
set_option maxRecDepth 20000 in
theorem za83 : ∀ q ∈ zt83, zok 83 q = true := by
  have h := zall_of zc83_0 (zall_end (by decide))
  simpa using h
set_option maxRecDepth 20000 in
theorem za84 : ∀ q ∈ zt84, zok 84 q = true := by
  have h := zall_of zc84_0 (zall_end (by decide))
  simpa using h
set_option maxRecDepth 20000 in
theorem za85 : ∀ q ∈ zt85, zok 85 q = true := by
  have h := zall_of zc85_0 (zall_end (by decide))
  simpa using h
set_option maxRecDepth 20000 in
theorem za86 : ∀ q ∈ zt86, zok 86 q = true := by
  have h := zall_of zc86_0 (zall_end (by decide))
  simpa using h
set_option maxRecDepth 20000 in
theorem za87 : ∀ q ∈ zt87, zok 87 q = true := by
  have h := zall_of zc87_0 (zall_end (by decide))
  simpa using h
set_option maxRecDepth 20000 in
theorem za88 : ∀ q ∈ zt88, zok 88 q = true := by
  have h := zall_of zc88_0 (zall_end (by decide))
  simpa using h
set_option maxRecDepth 20000 in
theorem za89 : ∀ q ∈ zt89, zok 89 q = true := by
  have h := zall_of zc89_0 (zall_end (by decide))
  simpa using h
set_option maxRecDepth 20000 in
theorem za90 : ∀ q ∈ zt90, zok 90 q = true := by
  have h := zall_of zc90_0 (zall_end (by decide))
  simpa using h
set_option maxRecDepth 20000 in
theorem za91 : ∀ q ∈ zt91, zok 91 q = true := by
  have h := zall_of zc91_0 (zall_end (by decide))
  simpa using h
set_option maxRecDepth 20000 in
theorem za92 : ∀ q ∈ zt92, zok 92 q = true := by
  have h := zall_of zc92_0 (zall_end (by decide))
  simpa using h
set_option maxRecDepth 20000 in
theorem za93 : ∀ q ∈ zt93, zok 93 q = true := by
  have h := zall_of zc93_0 (zall_end (by decide))
  simpa using h
set_option maxRecDepth 20000 in
theorem za94 : ∀ q ∈ zt94, zok 94 q = true := by
  have h := zall_of zc94_0 (zall_end (by decide))
  simpa using h
set_option maxRecDepth 20000 in
theorem za95 : ∀ q ∈ zt95, zok 95 q = true := by
  have h := zall_of zc95_0 (zall_end (by decide))
  simpa using h
set_option maxRecDepth 20000 in
theorem za96 : ∀ q ∈ zt96, zok 96 q = true := by
  have h := zall_of zc96_0 (zall_end (by decide))
  simpa using h
set_option maxRecDepth 20000 in
theorem za97 : ∀ q ∈ zt97, zok 97 q = true := by
  have h := zall_of zc97_0 (zall_end (by decide))
  simpa using h
set_option maxRecDepth 20000 in
theorem za98 : ∀ q ∈ zt98, zok 98 q = true := by
  have h := zall_of zc98_0 (zall_end (by decide))
  simpa using h
set_option maxRecDepth 20000 in
theorem za99 : ∀ q ∈ zt99, zok 99 q = true := by
  have h := zall_of zc99_0 (zall_end (by decide))
  simpa using h
set_option maxRecDepth 20000 in
theorem za100 : ∀ q ∈ zt100, zok 100 q = true := by
  have h := zall_of zc100_0 (zall_of zc100_60 (zall_end (by decide)))
  simpa using h
set_option maxRecDepth 20000 in
theorem za101 : ∀ q ∈ zt101, zok 101 q = true := by
  have h := zall_of zc101_0 (zall_end (by decide))
  simpa using h
set_option maxRecDepth 20000 in
theorem za102 : ∀ q ∈ zt102, zok 102 q = true := by
  have h := zall_of zc102_0 (zall_of zc102_60 (zall_of zc102_120 (zall_of zc102_180 (zall_end (by decide)))))
  simpa using h
set_option maxRecDepth 20000 in
theorem za103 : ∀ q ∈ zt103, zok 103 q = true := by
  have h := zall_of zc103_0 (zall_of zc103_60 (zall_of zc103_120 (zall_end (by decide))))
  simpa using h
set_option maxRecDepth 20000 in
theorem za104 : ∀ q ∈ zt104, zok 104 q = true := by
  have h := zall_of zc104_0 (zall_end (by decide))
  simpa using h
set_option maxRecDepth 20000 in
theorem za105 : ∀ q ∈ zt105, zok 105 q = true := by
  have h := zall_of zc105_0 (zall_end (by decide))
  simpa using h
set_option maxRecDepth 20000 in
theorem za106 : ∀ q ∈ zt106, zok 106 q = true := by
  have h := zall_of zc106_0 (zall_of zc106_60 (zall_end (by decide)))
  simpa using h
set_option maxRecDepth 20000 in
theorem za107 : ∀ q ∈ zt107, zok 107 q = true := by
  have h := zall_of zc107_0 (zall_end (by decide))
  simpa using h
set_option maxRecDepth 20000 in
theorem za108 : ∀ q ∈ zt108, zok 108 q = true := by
  have h := zall_of zc108_0 (zall_of zc108_60 (zall_end (by decide)))
  simpa using h
set_option maxRecDepth 20000 in
theorem za109 : ∀ q ∈ zt109, zok 109 q = true := by
  have h := zall_of zc109_0 (zall_end (by decide))
  simpa using h
set_option maxRecDepth 20000 in
theorem za110 : ∀ q ∈ zt110, zok 110 q = true := by
  have h := zall_of zc110_0 (zall_end (by decide))
  simpa using h
set_option maxRecDepth 20000 in
theorem za111 : ∀ q ∈ zt111, zok 111 q = true := by
  have h := zall_of zc111_0 (zall_of zc111_60 (zall_end (by decide)))
  simpa using h
set_option maxRecDepth 20000 in
theorem za112 : ∀ q ∈ zt112, zok 112 q = true := by
  have h := zall_of zc112_0 (zall_of zc112_60 (zall_end (by decide)))
  simpa using h
set_option maxRecDepth 20000 in
theorem za113 : ∀ q ∈ zt113, zok 113 q = true := by
  have h := zall_of zc113_0 (zall_end (by decide))
  simpa using h
set_option maxRecDepth 20000 in
theorem za114 : ∀ q ∈ zt114, zok 114 q = true := by
  have h := zall_of zc114_0 (zall_of zc114_60 (zall_end (by decide)))
  simpa using h
set_option maxRecDepth 20000 in
theorem za115 : ∀ q ∈ zt115, zok 115 q = true := by
  have h := zall_of zc115_0 (zall_of zc115_60 (zall_end (by decide)))
  simpa using h
set_option maxRecDepth 20000 in
theorem za116 : ∀ q ∈ zt116, zok 116 q = true := by
  have h := zall_of zc116_0 (zall_of zc116_60 (zall_end (by decide)))
  simpa using h
set_option maxRecDepth 20000 in
theorem za117 : ∀ q ∈ zt117, zok 117 q = true := by
  have h := zall_of zc117_0 (zall_end (by decide))
  simpa using h
set_option maxRecDepth 20000 in
theorem za118 : ∀ q ∈ zt118, zok 118 q = true := by
  have h := zall_of zc118_0 (zall_end (by decide))
  simpa using h
set_option maxRecDepth 20000 in
theorem za119 : ∀ q ∈ zt119, zok 119 q = true := by
  have h := zall_of zc119_0 (zall_of zc119_60 (zall_of zc119_120 (zall_end (by decide))))
  simpa using h
set_option maxRecDepth 20000 in
theorem za120 : ∀ q ∈ zt120, zok 120 q = true := by
  have h := zall_of zc120_0 (zall_end (by decide))
  simpa using h
set_option maxRecDepth 20000 in
theorem za121 : ∀ q ∈ zt121, zok 121 q = true := by
  have h := zall_of zc121_0 (zall_end (by decide))
  simpa using h
set_option maxRecDepth 20000 in
theorem za122 : ∀ q ∈ zt122, zok 122 q = true := by
  have h := zall_of zc122_0 (zall_of zc122_60 (zall_of zc122_120 (zall_end (by decide))))
  simpa using h
set_option maxRecDepth 20000 in
theorem za123 : ∀ q ∈ zt123, zok 123 q = true := by
  have h := zall_of zc123_0 (zall_end (by decide))
  simpa using h
set_option maxRecDepth 20000 in
theorem za124 : ∀ q ∈ zt124, zok 124 q = true := by
  have h := zall_of zc124_0 (zall_of zc124_60 (zall_end (by decide)))
  simpa using h
set_option maxRecDepth 20000 in
theorem za125 : ∀ q ∈ zt125, zok 125 q = true := by
  have h := zall_of zc125_0 (zall_end (by decide))
  simpa using h
set_option maxRecDepth 20000 in
theorem za126 : ∀ q ∈ zt126, zok 126 q = true := by
  have h := zall_of zc126_0 (zall_end (by decide))
  simpa using h
set_option maxRecDepth 20000 in
theorem za127 : ∀ q ∈ zt127, zok 127 q = true := by
  have h := zall_of zc127_0 (zall_end (by decide))
  simpa using h
set_option maxRecDepth 20000 in
theorem za128 : ∀ q ∈ zt128, zok 128 q = true := by
  have h := zall_of zc128_0 (zall_of zc128_60 (zall_end (by decide)))
  simpa using h
set_option maxRecDepth 20000 in
theorem za129 : ∀ q ∈ zt129, zok 129 q = true := by
  have h := zall_of zc129_0 (zall_of zc129_60 (zall_of zc129_120 (zall_end (by decide))))
  simpa using h
set_option maxRecDepth 20000 in
theorem za130 : ∀ q ∈ zt130, zok 130 q = true := by
  have h := zall_of zc130_0 (zall_end (by decide))
  simpa using h
set_option maxRecDepth 20000 in
theorem za131 : ∀ q ∈ zt131, zok 131 q = true := by
  have h := zall_of zc131_0 (zall_of zc131_60 (zall_end (by decide)))
  simpa using h
set_option maxRecDepth 20000 in
theorem za132 : ∀ q ∈ zt132, zok 132 q = true := by
  have h := zall_of zc132_0 (zall_of zc132_60 (zall_end (by decide)))
  simpa using h
set_option maxRecDepth 20000 in
theorem za133 : ∀ q ∈ zt133, zok 133 q = true := by
  have h := zall_of zc133_0 (zall_of zc133_60 (zall_end (by decide)))
  simpa using h
set_option maxRecDepth 20000 in
theorem za134 : ∀ q ∈ zt134, zok 134 q = true := by
  have h := zall_of zc134_0 (zall_end (by decide))
  simpa using h
set_option maxRecDepth 20000 in
theorem za135 : ∀ q ∈ zt135, zok 135 q = true := by
  have h := zall_of zc135_0 (zall_end (by decide))
  simpa using h
set_option maxRecDepth 20000 in
theorem za136 : ∀ q ∈ zt136, zok 136 q = true := by
  have h := zall_of zc136_0 (zall_of zc136_60 (zall_end (by decide)))
  simpa using h
set_option maxRecDepth 20000 in
theorem za137 : ∀ q ∈ zt137, zok 137 q = true := by
  have h := zall_of zc137_0 (zall_end (by decide))
  simpa using h
set_option maxRecDepth 20000 in
theorem za138 : ∀ q ∈ zt138, zok 138 q = true := by
  have h := zall_of zc138_0 (zall_end (by decide))
  simpa using h
set_option maxRecDepth 20000 in
theorem za139 : ∀ q ∈ zt139, zok 139 q = true := by
  have h := zall_of zc139_0 (zall_of zc139_60 (zall_end (by decide)))
  simpa using h
set_option maxRecDepth 20000 in
theorem za140 : ∀ q ∈ zt140, zok 140 q = true := by
  have h := zall_of zc140_0 (zall_of zc140_60 (zall_end (by decide)))
  simpa using h
set_option maxRecDepth 20000 in
theorem za141 : ∀ q ∈ zt141, zok 141 q = true := by
  have h := zall_of zc141_0 (zall_end (by decide))
  simpa using h
set_option maxRecDepth 20000 in
theorem za142 : ∀ q ∈ zt142, zok 142 q = true := by
  have h := zall_of zc142_0 (zall_end (by decide))
  simpa using h
set_option maxRecDepth 20000 in
theorem za143 : ∀ q ∈ zt143, zok 143 q = true := by
  have h := zall_of zc143_0 (zall_end (by decide))
  simpa using h
set_option maxRecDepth 20000 in
theorem za144 : ∀ q ∈ zt144, zok 144 q = true := by
  have h := zall_of zc144_0 (zall_end (by decide))
  simpa using h
set_option maxRecDepth 20000 in
theorem za145 : ∀ q ∈ zt145, zok 145 q = true := by
  have h := zall_of zc145_0 (zall_end (by decide))
  simpa using h
set_option maxRecDepth 20000 in
theorem za146 : ∀ q ∈ zt146, zok 146 q = true := by
  have h := zall_of zc146_0 (zall_end (by decide))
  simpa using h
set_option maxRecDepth 20000 in
theorem za147 : ∀ q ∈ zt147, zok 147 q = true := by
  have h := zall_of zc147_0 (zall_end (by decide))
  simpa using h
theorem za148 : ∀ q ∈ zt148, zok 148 q = true := fun q h => by cases h
theorem za149 : ∀ q ∈ zt149, zok 149 q = true := fun q h => by cases h
set_option maxRecDepth 20000 in
theorem za150 : ∀ q ∈ zt150.drop 10, zok 150 q = true := zall_of zc150_10 (zall_of zc150_70 (zall_of zc150_130 (zall_of zc150_190 (zall_of zc150_250 (zall_of zc150_310 (zall_of zc150_370 (zall_of zc150_430 (zall_of zc150_490 (zall_of zc150_550 (zall_of zc150_610 (zall_end (by decide))))))))))))
theorem zas : ∀ m, m < 150 → ∀ q ∈ ztl m, zok m q = true := by
  intro m h
  match m, h with
  | 0, _ => exact za0
  | 1, _ => exact za1
  | 2, _ => exact za2
  | 3, _ => exact za3
  | 4, _ => exact za4
  | 5, _ => exact za5
  | 6, _ => exact za6
  | 7, _ => exact za7
  | 8, _ => exact za8
  | 9, _ => exact za9
  | 10, _ => exact za10
  | 11, _ => exact za11
  | 12, _ => exact za12
  | 13, _ => exact za13
  | 14, _ => exact za14
  | 15, _ => exact za15
  | 16, _ => exact za16
  | 17, _ => exact za17
  | 18, _ => exact za18
  | 19, _ => exact za19
  | 20, _ => exact za20
  | 21, _ => exact za21
  | 22, _ => exact za22
  | 23, _ => exact za23
  | 24, _ => exact za24
  | 25, _ => exact za25
  | 26, _ => exact za26
  | 27, _ => exact za27
  | 28, _ => exact za28
  | 29, _ => exact za29
  | 30, _ => exact za30
  | 31, _ => exact za31
  | 32, _ => exact za32
  | 33, _ => exact za33
  | 34, _ => exact za34
  | 35, _ => exact za35
  | 36, _ => exact za36
  | 37, _ => exact za37
  | 38, _ => exact za38
  | 39, _ => exact za39
  | 40, _ => exact za40
  | 41, _ => exact za41
  | 42, _ => exact za42
  | 43, _ => exact za43
  | 44, _ => exact za44
  | 45, _ => exact za45
  | 46, _ => exact za46
  | 47, _ => exact za47
  | 48, _ => exact za48
  | 49, _ => exact za49
  | 50, _ => exact za50
  | 51, _ => exact za51
  | 52, _ => exact za52
  | 53, _ => exact za53
  | 54, _ => exact za54
  | 55, _ => exact za55
  | 56, _ => exact za56
  | 57, _ => exact za57
  | 58, _ => exact za58
  | 59, _ => exact za59
  | 60, _ => exact za60
  | 61, _ => exact za61
  | 62, _ => exact za62
  | 63, _ => exact za63
  | 64, _ => exact za64
  | 65, _ => exact za65
  | 66, _ => exact za66
  | 67, _ => exact za67
  | 68, _ => exact za68
  | 69, _ => exact za69
  | 70, _ => exact za70
  | 71, _ => exact za71
  | 72, _ => exact za72
  | 73, _ => exact za73
  | 74, _ => exact za74
  | 75, _ => exact za75
  | 76, _ => exact za76
  | 77, _ => exact za77
  | 78, _ => exact za78
  | 79, _ => exact za79
  | 80, _ => exact za80
  | 81, _ => exact za81
  | 82, _ => exact za82
  | 83, _ => exact za83
  | 84, _ => exact za84
  | 85, _ => exact za85
  | 86, _ => exact za86
  | 87, _ => exact za87
  | 88, _ => exact za88
  | 89, _ => exact za89
  | 90, _ => exact za90
  | 91, _ => exact za91
  | 92, _ => exact za92
  | 93, _ => exact za93
  | 94, _ => exact za94
  | 95, _ => exact za95
  | 96, _ => exact za96
  | 97, _ => exact za97
  | 98, _ => exact za98
  | 99, _ => exact za99
  | 100, _ => exact za100
  | 101, _ => exact za101
  | 102, _ => exact za102
  | 103, _ => exact za103
  | 104, _ => exact za104
  | 105, _ => exact za105
  | 106, _ => exact za106
  | 107, _ => exact za107
  | 108, _ => exact za108
  | 109, _ => exact za109
  | 110, _ => exact za110
  | 111, _ => exact za111
  | 112, _ => exact za112
  | 113, _ => exact za113
  | 114, _ => exact za114
  | 115, _ => exact za115
  | 116, _ => exact za116
  | 117, _ => exact za117
  | 118, _ => exact za118
  | 119, _ => exact za119
  | 120, _ => exact za120
  | 121, _ => exact za121
  | 122, _ => exact za122
  | 123, _ => exact za123
  | 124, _ => exact za124
  | 125, _ => exact za125
  | 126, _ => exact za126
  | 127, _ => exact za127
  | 128, _ => exact za128
  | 129, _ => exact za129
  | 130, _ => exact za130
  | 131, _ => exact za131
  | 132, _ => exact za132
  | 133, _ => exact za133
  | 134, _ => exact za134
  | 135, _ => exact za135
  | 136, _ => exact za136
  | 137, _ => exact za137
  | 138, _ => exact za138
  | 139, _ => exact za139
  | 140, _ => exact za140
  | 141, _ => exact za141
  | 142, _ => exact za142
  | 143, _ => exact za143
  | 144, _ => exact za144
  | 145, _ => exact za145
  | 146, _ => exact za146
  | 147, _ => exact za147
  | 148, _ => exact za148
  | 149, _ => exact za149
  | k + 150, h => omega
