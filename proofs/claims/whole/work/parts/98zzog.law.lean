set_option maxRecDepth 16000 in
theorem w_L_law_2486 (S : xS) (x1 : Nat) (x2 : Nat) (x3 : Nat) (x4 : Int32) (h : xH) : xle ((xRs S (x4 + (1 : Int32))).bind fun v1 => xqI (xM S mL_regionRight [.ref x1, .int v1, .ref x3] h) xth fun v3 h2 => (xRs S (x4 + (1 : Int32))).bind fun v4 => if xOb h2 x2 12 = true then xqI (xM S mX13_regionRight [.ref x2, .int v4] h2) xth fun v7 h6 => if xOb h6 x2 12 = true then xqI (xM S mX13_thrown [.ref x2] h6) xth fun v10 h9 => if v10 = v3 then (if ¬ v3 = 0 then (xden S mL_law 3482 [(0, .retAddr 11), (1, .ref x1), (2, .ref x2), (3, .ref x3), (4, .int x4)] [] h9) else ((xRl h9 x3 (0 : Int32)).bind fun v11 => if (lg_cmp v11 (v7.toInt64)) = 0 then (xden S mL_law 3482 [(0, .retAddr 11), (1, .ref x1), (2, .ref x2), (3, .ref x3), (4, .int x4)] [] h9) else (some (.inl (some (.int (0 : Int32))), h9, 0, 0)))) else (some (.inl (some (.int (0 : Int32))), h9, 0, 0)) else none else none) (xden S mL_law 2486 [(0, .retAddr 11), (1, .ref x1), (2, .ref x2), (3, .ref x3), (4, .int x4)] [] h) := by
  refine l_loc dL_law_2486 rfl rfl ?_
  refine l_loc dL_law_2487 rfl rfl ?_
  refine l_loc dL_law_2488 rfl rfl ?_
  refine l_ic dL_law_2490 kI_1 ?_
  refine l_pure dL_law_2491 rfl rfl ?_
  refine l_rs dL_law_2492 (fun v1 => ?_)
  refine l_loc dL_law_2493 rfl rfl ?_
  refine l_cI dL_law_2494 rfl rfl rfl (l_xs cl_14_315 ko_mL_regionRight rfl rfl) rfl rfl nm_mL_regionRight (xhE_th rfl) (fun v3 h2 => ?_)
  refine l_loc (al1 := [(5, .int v3), (0, .retAddr 11), (1, .ref x1), (2, .ref x2), (3, .ref x3), (4, .int x4)]) dL_law_2497 rfl rfl ?_
  refine l_loc dL_law_2499 rfl rfl ?_
  refine l_loc dL_law_2500 rfl rfl ?_
  refine l_loc dL_law_2501 rfl rfl ?_
  refine l_ic dL_law_2503 kI_1 ?_
  refine l_pure dL_law_2504 rfl rfl ?_
  refine l_rs dL_law_2505 (fun v4 => ?_)
  refine l_ob fun q5 => ?_
  refine l_cI dL_law_2506 rfl rfl rfl (l_xv cl_14_317 ko_mX13_regionRight rfl rfl rfl q5) rfl rfl nm_mX13_regionRight (xhE_th rfl) (fun v7 h6 => ?_)
  refine l_loc (al1 := [(6, .int v7), (5, .int v3), (0, .retAddr 11), (1, .ref x1), (2, .ref x2), (3, .ref x3), (4, .int x4)]) dL_law_2509 rfl rfl ?_
  refine l_loc dL_law_2511 rfl rfl ?_
  refine l_ob fun q8 => ?_
  refine l_cI dL_law_2512 rfl rfl rfl (l_xv cl_14_195 ko_mX13_thrown rfl rfl rfl q8) rfl rfl nm_mX13_thrown (xhE_th rfl) (fun v10 h9 => ?_)
  refine l_loc dL_law_2515 rfl rfl ?_
  refine l_ceq (t := 2522) dL_law_2517 rfl ?_ ?_
  · refine l_loc dL_law_2522 rfl rfl ?_
    refine l_ine (t := 2539) dL_law_2524 rfl ?_ ?_
    · refine l_goto (t := 3482) dL_law_2539 rfl ?_
      exact l_al rfl ⟨rfl, rfl, rfl, rfl, rfl, trivial⟩
    · refine l_loc dL_law_2527 rfl rfl ?_
      refine l_ic dL_law_2528 kI_0 ?_
      refine l_rl dL_law_2529 (fun v11 => ?_)
      refine l_loc dL_law_2530 rfl rfl ?_
      refine l_pure dL_law_2532 rfl rfl ?_
      refine l_pure dL_law_2533 rfl rfl ?_
      refine l_ieq (t := 2539) dL_law_2534 rfl ?_ ?_
      · refine l_goto (t := 3482) dL_law_2539 rfl ?_
        exact l_al rfl ⟨rfl, rfl, rfl, rfl, rfl, trivial⟩
      · refine l_ic dL_law_2537 kI_0 ?_
        exact l_iretn dL_law_2538 rfl (by decide)
  · refine l_ic dL_law_2520 kI_0 ?_
    exact l_iretn dL_law_2521 rfl (by decide)
set_option maxRecDepth 16000 in
theorem w_L_law_2542 (S : xS) (x1 : Nat) (x2 : Nat) (x3 : Nat) (x4 : Int32) (h : xH) : xle ((xRs S (x4 + (1 : Int32))).bind fun v1 => xqI (xM S mL_regionBottom [.ref x1, .int v1, .ref x3] h) xth fun v3 h2 => (xRs S (x4 + (1 : Int32))).bind fun v4 => if xOb h2 x2 12 = true then xqI (xM S mX13_regionBottom [.ref x2, .int v4] h2) xth fun v7 h6 => if xOb h6 x2 12 = true then xqI (xM S mX13_thrown [.ref x2] h6) xth fun v10 h9 => if v10 = v3 then (if ¬ v3 = 0 then (xden S mL_law 3482 [(0, .retAddr 11), (1, .ref x1), (2, .ref x2), (3, .ref x3), (4, .int x4)] [] h9) else ((xRl h9 x3 (0 : Int32)).bind fun v11 => if (lg_cmp v11 (v7.toInt64)) = 0 then (xden S mL_law 3482 [(0, .retAddr 11), (1, .ref x1), (2, .ref x2), (3, .ref x3), (4, .int x4)] [] h9) else (some (.inl (some (.int (0 : Int32))), h9, 0, 0)))) else (some (.inl (some (.int (0 : Int32))), h9, 0, 0)) else none else none) (xden S mL_law 2542 [(0, .retAddr 11), (1, .ref x1), (2, .ref x2), (3, .ref x3), (4, .int x4)] [] h) := by
  refine l_loc dL_law_2542 rfl rfl ?_
  refine l_loc dL_law_2543 rfl rfl ?_
  refine l_loc dL_law_2544 rfl rfl ?_
  refine l_ic dL_law_2546 kI_1 ?_
  refine l_pure dL_law_2547 rfl rfl ?_
  refine l_rs dL_law_2548 (fun v1 => ?_)
  refine l_loc dL_law_2549 rfl rfl ?_
  refine l_cI dL_law_2550 rfl rfl rfl (l_xs cl_14_318 ko_mL_regionBottom rfl rfl) rfl rfl nm_mL_regionBottom (xhE_th rfl) (fun v3 h2 => ?_)
  refine l_loc (al1 := [(5, .int v3), (0, .retAddr 11), (1, .ref x1), (2, .ref x2), (3, .ref x3), (4, .int x4)]) dL_law_2553 rfl rfl ?_
  refine l_loc dL_law_2555 rfl rfl ?_
  refine l_loc dL_law_2556 rfl rfl ?_
  refine l_loc dL_law_2557 rfl rfl ?_
  refine l_ic dL_law_2559 kI_1 ?_
  refine l_pure dL_law_2560 rfl rfl ?_
  refine l_rs dL_law_2561 (fun v4 => ?_)
  refine l_ob fun q5 => ?_
  refine l_cI dL_law_2562 rfl rfl rfl (l_xv cl_14_320 ko_mX13_regionBottom rfl rfl rfl q5) rfl rfl nm_mX13_regionBottom (xhE_th rfl) (fun v7 h6 => ?_)
  refine l_loc (al1 := [(6, .int v7), (5, .int v3), (0, .retAddr 11), (1, .ref x1), (2, .ref x2), (3, .ref x3), (4, .int x4)]) dL_law_2565 rfl rfl ?_
  refine l_loc dL_law_2567 rfl rfl ?_
  refine l_ob fun q8 => ?_
  refine l_cI dL_law_2568 rfl rfl rfl (l_xv cl_14_195 ko_mX13_thrown rfl rfl rfl q8) rfl rfl nm_mX13_thrown (xhE_th rfl) (fun v10 h9 => ?_)
  refine l_loc dL_law_2571 rfl rfl ?_
  refine l_ceq (t := 2578) dL_law_2573 rfl ?_ ?_
  · refine l_loc dL_law_2578 rfl rfl ?_
    refine l_ine (t := 2595) dL_law_2580 rfl ?_ ?_
    · refine l_goto (t := 3482) dL_law_2595 rfl ?_
      exact l_al rfl ⟨rfl, rfl, rfl, rfl, rfl, trivial⟩
    · refine l_loc dL_law_2583 rfl rfl ?_
      refine l_ic dL_law_2584 kI_0 ?_
      refine l_rl dL_law_2585 (fun v11 => ?_)
      refine l_loc dL_law_2586 rfl rfl ?_
      refine l_pure dL_law_2588 rfl rfl ?_
      refine l_pure dL_law_2589 rfl rfl ?_
      refine l_ieq (t := 2595) dL_law_2590 rfl ?_ ?_
      · refine l_goto (t := 3482) dL_law_2595 rfl ?_
        exact l_al rfl ⟨rfl, rfl, rfl, rfl, rfl, trivial⟩
      · refine l_ic dL_law_2593 kI_0 ?_
        exact l_iretn dL_law_2594 rfl (by decide)
  · refine l_ic dL_law_2576 kI_0 ?_
    exact l_iretn dL_law_2577 rfl (by decide)
set_option maxRecDepth 16000 in
theorem w_L_law_2598 (S : xS) (x1 : Nat) (x2 : Nat) (x3 : Nat) (x4 : Int32) (h : xH) : xle ((xRs S (x4 + (1 : Int32))).bind fun v1 => xqI (xM S mL_missingPixels [.ref x1, .int v1, .ref x3] h) xth fun v3 h2 => (xRs S (x4 + (1 : Int32))).bind fun v4 => if xOb h2 x2 12 = true then xqI (xM S mX13_missingPixels [.ref x2, .int v4] h2) xth fun v7 h6 => if xOb h6 x2 12 = true then xqI (xM S mX13_thrown [.ref x2] h6) xth fun v10 h9 => if v10 = v3 then (if ¬ v3 = 0 then (xden S mL_law 3482 [(0, .retAddr 11), (1, .ref x1), (2, .ref x2), (3, .ref x3), (4, .int x4)] [] h9) else ((xRl h9 x3 (0 : Int32)).bind fun v11 => if (lg_cmp v11 (v7.toInt64)) = 0 then (xden S mL_law 3482 [(0, .retAddr 11), (1, .ref x1), (2, .ref x2), (3, .ref x3), (4, .int x4)] [] h9) else (some (.inl (some (.int (0 : Int32))), h9, 0, 0)))) else (some (.inl (some (.int (0 : Int32))), h9, 0, 0)) else none else none) (xden S mL_law 2598 [(0, .retAddr 11), (1, .ref x1), (2, .ref x2), (3, .ref x3), (4, .int x4)] [] h) := by
  refine l_loc dL_law_2598 rfl rfl ?_
  refine l_loc dL_law_2599 rfl rfl ?_
  refine l_loc dL_law_2600 rfl rfl ?_
  refine l_ic dL_law_2602 kI_1 ?_
  refine l_pure dL_law_2603 rfl rfl ?_
  refine l_rs dL_law_2604 (fun v1 => ?_)
  refine l_loc dL_law_2605 rfl rfl ?_
  refine l_cI dL_law_2606 rfl rfl rfl (l_xs cl_14_321 ko_mL_missingPixels rfl rfl) rfl rfl nm_mL_missingPixels (xhE_th rfl) (fun v3 h2 => ?_)
  refine l_loc (al1 := [(5, .int v3), (0, .retAddr 11), (1, .ref x1), (2, .ref x2), (3, .ref x3), (4, .int x4)]) dL_law_2609 rfl rfl ?_
  refine l_loc dL_law_2611 rfl rfl ?_
  refine l_loc dL_law_2612 rfl rfl ?_
  refine l_loc dL_law_2613 rfl rfl ?_
  refine l_ic dL_law_2615 kI_1 ?_
  refine l_pure dL_law_2616 rfl rfl ?_
  refine l_rs dL_law_2617 (fun v4 => ?_)
  refine l_ob fun q5 => ?_
  refine l_cI dL_law_2618 rfl rfl rfl (l_xv cl_14_323 ko_mX13_missingPixels rfl rfl rfl q5) rfl rfl nm_mX13_missingPixels (xhE_th rfl) (fun v7 h6 => ?_)
  refine l_loc (al1 := [(6, .int v7), (5, .int v3), (0, .retAddr 11), (1, .ref x1), (2, .ref x2), (3, .ref x3), (4, .int x4)]) dL_law_2621 rfl rfl ?_
  refine l_loc dL_law_2623 rfl rfl ?_
  refine l_ob fun q8 => ?_
  refine l_cI dL_law_2624 rfl rfl rfl (l_xv cl_14_195 ko_mX13_thrown rfl rfl rfl q8) rfl rfl nm_mX13_thrown (xhE_th rfl) (fun v10 h9 => ?_)
  refine l_loc dL_law_2627 rfl rfl ?_
  refine l_ceq (t := 2634) dL_law_2629 rfl ?_ ?_
  · refine l_loc dL_law_2634 rfl rfl ?_
    refine l_ine (t := 2651) dL_law_2636 rfl ?_ ?_
    · refine l_goto (t := 3482) dL_law_2651 rfl ?_
      exact l_al rfl ⟨rfl, rfl, rfl, rfl, rfl, trivial⟩
    · refine l_loc dL_law_2639 rfl rfl ?_
      refine l_ic dL_law_2640 kI_0 ?_
      refine l_rl dL_law_2641 (fun v11 => ?_)
      refine l_loc dL_law_2642 rfl rfl ?_
      refine l_pure dL_law_2644 rfl rfl ?_
      refine l_pure dL_law_2645 rfl rfl ?_
      refine l_ieq (t := 2651) dL_law_2646 rfl ?_ ?_
      · refine l_goto (t := 3482) dL_law_2651 rfl ?_
        exact l_al rfl ⟨rfl, rfl, rfl, rfl, rfl, trivial⟩
      · refine l_ic dL_law_2649 kI_0 ?_
        exact l_iretn dL_law_2650 rfl (by decide)
  · refine l_ic dL_law_2632 kI_0 ?_
    exact l_iretn dL_law_2633 rfl (by decide)
set_option maxRecDepth 16000 in
theorem w_L_law_2654 (S : xS) (x1 : Nat) (x2 : Nat) (x3 : Nat) (x4 : Int32) (h : xH) : xle ((xRs S (x4 + (1 : Int32))).bind fun v1 => xqI (xM S mL_addedPixels [.ref x1, .int v1, .ref x3] h) xth fun v3 h2 => (xRs S (x4 + (1 : Int32))).bind fun v4 => if xOb h2 x2 12 = true then xqI (xM S mX13_addedPixels [.ref x2, .int v4] h2) xth fun v7 h6 => if xOb h6 x2 12 = true then xqI (xM S mX13_thrown [.ref x2] h6) xth fun v10 h9 => if v10 = v3 then (if ¬ v3 = 0 then (xden S mL_law 3482 [(0, .retAddr 11), (1, .ref x1), (2, .ref x2), (3, .ref x3), (4, .int x4)] [] h9) else ((xRl h9 x3 (0 : Int32)).bind fun v11 => if (lg_cmp v11 (v7.toInt64)) = 0 then (xden S mL_law 3482 [(0, .retAddr 11), (1, .ref x1), (2, .ref x2), (3, .ref x3), (4, .int x4)] [] h9) else (some (.inl (some (.int (0 : Int32))), h9, 0, 0)))) else (some (.inl (some (.int (0 : Int32))), h9, 0, 0)) else none else none) (xden S mL_law 2654 [(0, .retAddr 11), (1, .ref x1), (2, .ref x2), (3, .ref x3), (4, .int x4)] [] h) := by
  refine l_loc dL_law_2654 rfl rfl ?_
  refine l_loc dL_law_2655 rfl rfl ?_
  refine l_loc dL_law_2656 rfl rfl ?_
  refine l_ic dL_law_2658 kI_1 ?_
  refine l_pure dL_law_2659 rfl rfl ?_
  refine l_rs dL_law_2660 (fun v1 => ?_)
  refine l_loc dL_law_2661 rfl rfl ?_
  refine l_cI dL_law_2662 rfl rfl rfl (l_xs cl_14_324 ko_mL_addedPixels rfl rfl) rfl rfl nm_mL_addedPixels (xhE_th rfl) (fun v3 h2 => ?_)
  refine l_loc (al1 := [(5, .int v3), (0, .retAddr 11), (1, .ref x1), (2, .ref x2), (3, .ref x3), (4, .int x4)]) dL_law_2665 rfl rfl ?_
  refine l_loc dL_law_2667 rfl rfl ?_
  refine l_loc dL_law_2668 rfl rfl ?_
  refine l_loc dL_law_2669 rfl rfl ?_
  refine l_ic dL_law_2671 kI_1 ?_
  refine l_pure dL_law_2672 rfl rfl ?_
  refine l_rs dL_law_2673 (fun v4 => ?_)
  refine l_ob fun q5 => ?_
  refine l_cI dL_law_2674 rfl rfl rfl (l_xv cl_14_326 ko_mX13_addedPixels rfl rfl rfl q5) rfl rfl nm_mX13_addedPixels (xhE_th rfl) (fun v7 h6 => ?_)
  refine l_loc (al1 := [(6, .int v7), (5, .int v3), (0, .retAddr 11), (1, .ref x1), (2, .ref x2), (3, .ref x3), (4, .int x4)]) dL_law_2677 rfl rfl ?_
  refine l_loc dL_law_2679 rfl rfl ?_
  refine l_ob fun q8 => ?_
  refine l_cI dL_law_2680 rfl rfl rfl (l_xv cl_14_195 ko_mX13_thrown rfl rfl rfl q8) rfl rfl nm_mX13_thrown (xhE_th rfl) (fun v10 h9 => ?_)
  refine l_loc dL_law_2683 rfl rfl ?_
  refine l_ceq (t := 2690) dL_law_2685 rfl ?_ ?_
  · refine l_loc dL_law_2690 rfl rfl ?_
    refine l_ine (t := 2707) dL_law_2692 rfl ?_ ?_
    · refine l_goto (t := 3482) dL_law_2707 rfl ?_
      exact l_al rfl ⟨rfl, rfl, rfl, rfl, rfl, trivial⟩
    · refine l_loc dL_law_2695 rfl rfl ?_
      refine l_ic dL_law_2696 kI_0 ?_
      refine l_rl dL_law_2697 (fun v11 => ?_)
      refine l_loc dL_law_2698 rfl rfl ?_
      refine l_pure dL_law_2700 rfl rfl ?_
      refine l_pure dL_law_2701 rfl rfl ?_
      refine l_ieq (t := 2707) dL_law_2702 rfl ?_ ?_
      · refine l_goto (t := 3482) dL_law_2707 rfl ?_
        exact l_al rfl ⟨rfl, rfl, rfl, rfl, rfl, trivial⟩
      · refine l_ic dL_law_2705 kI_0 ?_
        exact l_iretn dL_law_2706 rfl (by decide)
  · refine l_ic dL_law_2688 kI_0 ?_
    exact l_iretn dL_law_2689 rfl (by decide)
set_option maxRecDepth 16000 in
theorem w_L_law_2710 (S : xS) (x1 : Nat) (x2 : Nat) (x3 : Nat) (x4 : Int32) (h : xH) : xle (xqI (xM S mL_changes [.ref x1, .ref x3] h) xth fun v2 h1 => if xOb h1 x2 12 = true then xqI (xM S mX13_changes [.ref x2] h1) xth fun v5 h4 => if xOb h4 x2 12 = true then xqI (xM S mX13_thrown [.ref x2] h4) xth fun v8 h7 => if v8 = v2 then (if ¬ v2 = 0 then (xden S mL_law 3482 [(0, .retAddr 11), (1, .ref x1), (2, .ref x2), (3, .ref x3), (4, .int x4)] [] h7) else ((xRl h7 x3 (0 : Int32)).bind fun v9 => if (lg_cmp v9 (v5.toInt64)) = 0 then (xden S mL_law 3482 [(0, .retAddr 11), (1, .ref x1), (2, .ref x2), (3, .ref x3), (4, .int x4)] [] h7) else (some (.inl (some (.int (0 : Int32))), h7, 0, 0)))) else (some (.inl (some (.int (0 : Int32))), h7, 0, 0)) else none else none) (xden S mL_law 2710 [(0, .retAddr 11), (1, .ref x1), (2, .ref x2), (3, .ref x3), (4, .int x4)] [] h) := by
  refine l_loc dL_law_2710 rfl rfl ?_
  refine l_loc dL_law_2711 rfl rfl ?_
  refine l_cI dL_law_2712 rfl rfl rfl (l_xs cl_14_327 ko_mL_changes rfl rfl) rfl rfl nm_mL_changes (xhE_th rfl) (fun v2 h1 => ?_)
  refine l_loc (al1 := [(5, .int v2), (0, .retAddr 11), (1, .ref x1), (2, .ref x2), (3, .ref x3), (4, .int x4)]) dL_law_2715 rfl rfl ?_
  refine l_loc dL_law_2717 rfl rfl ?_
  refine l_ob fun q3 => ?_
  refine l_cI dL_law_2718 rfl rfl rfl (l_xv cl_14_329 ko_mX13_changes rfl rfl rfl q3) rfl rfl nm_mX13_changes (xhE_th rfl) (fun v5 h4 => ?_)
  refine l_loc (al1 := [(6, .int v5), (5, .int v2), (0, .retAddr 11), (1, .ref x1), (2, .ref x2), (3, .ref x3), (4, .int x4)]) dL_law_2721 rfl rfl ?_
  refine l_loc dL_law_2723 rfl rfl ?_
  refine l_ob fun q6 => ?_
  refine l_cI dL_law_2724 rfl rfl rfl (l_xv cl_14_195 ko_mX13_thrown rfl rfl rfl q6) rfl rfl nm_mX13_thrown (xhE_th rfl) (fun v8 h7 => ?_)
  refine l_loc dL_law_2727 rfl rfl ?_
  refine l_ceq (t := 2734) dL_law_2729 rfl ?_ ?_
  · refine l_loc dL_law_2734 rfl rfl ?_
    refine l_ine (t := 2751) dL_law_2736 rfl ?_ ?_
    · refine l_goto (t := 3482) dL_law_2751 rfl ?_
      exact l_al rfl ⟨rfl, rfl, rfl, rfl, rfl, trivial⟩
    · refine l_loc dL_law_2739 rfl rfl ?_
      refine l_ic dL_law_2740 kI_0 ?_
      refine l_rl dL_law_2741 (fun v9 => ?_)
      refine l_loc dL_law_2742 rfl rfl ?_
      refine l_pure dL_law_2744 rfl rfl ?_
      refine l_pure dL_law_2745 rfl rfl ?_
      refine l_ieq (t := 2751) dL_law_2746 rfl ?_ ?_
      · refine l_goto (t := 3482) dL_law_2751 rfl ?_
        exact l_al rfl ⟨rfl, rfl, rfl, rfl, rfl, trivial⟩
      · refine l_ic dL_law_2749 kI_0 ?_
        exact l_iretn dL_law_2750 rfl (by decide)
  · refine l_ic dL_law_2732 kI_0 ?_
    exact l_iretn dL_law_2733 rfl (by decide)
set_option maxRecDepth 16000 in
theorem w_L_law_2754 (S : xS) (x1 : Nat) (x2 : Nat) (x3 : Nat) (x4 : Int32) (h : xH) : xle ((xRs S (x4 + (1 : Int32))).bind fun v1 => xqI (xM S mL_changeKind [.ref x1, .int v1, .ref x3] h) xth fun v3 h2 => (xRs S (x4 + (1 : Int32))).bind fun v4 => if xOb h2 x2 12 = true then xqI (xM S mX13_changeKind [.ref x2, .int v4] h2) xth fun v7 h6 => if xOb h6 x2 12 = true then xqI (xM S mX13_thrown [.ref x2] h6) xth fun v10 h9 => if v10 = v3 then (if ¬ v3 = 0 then (xden S mL_law 3482 [(0, .retAddr 11), (1, .ref x1), (2, .ref x2), (3, .ref x3), (4, .int x4)] [] h9) else ((xRl h9 x3 (0 : Int32)).bind fun v11 => if (lg_cmp v11 (v7.toInt64)) = 0 then (xden S mL_law 3482 [(0, .retAddr 11), (1, .ref x1), (2, .ref x2), (3, .ref x3), (4, .int x4)] [] h9) else (some (.inl (some (.int (0 : Int32))), h9, 0, 0)))) else (some (.inl (some (.int (0 : Int32))), h9, 0, 0)) else none else none) (xden S mL_law 2754 [(0, .retAddr 11), (1, .ref x1), (2, .ref x2), (3, .ref x3), (4, .int x4)] [] h) := by
  refine l_loc dL_law_2754 rfl rfl ?_
  refine l_loc dL_law_2755 rfl rfl ?_
  refine l_loc dL_law_2756 rfl rfl ?_
  refine l_ic dL_law_2758 kI_1 ?_
  refine l_pure dL_law_2759 rfl rfl ?_
  refine l_rs dL_law_2760 (fun v1 => ?_)
  refine l_loc dL_law_2761 rfl rfl ?_
  refine l_cI dL_law_2762 rfl rfl rfl (l_xs cl_14_330 ko_mL_changeKind rfl rfl) rfl rfl nm_mL_changeKind (xhE_th rfl) (fun v3 h2 => ?_)
  refine l_loc (al1 := [(5, .int v3), (0, .retAddr 11), (1, .ref x1), (2, .ref x2), (3, .ref x3), (4, .int x4)]) dL_law_2765 rfl rfl ?_
  refine l_loc dL_law_2767 rfl rfl ?_
  refine l_loc dL_law_2768 rfl rfl ?_
  refine l_loc dL_law_2769 rfl rfl ?_
  refine l_ic dL_law_2771 kI_1 ?_
  refine l_pure dL_law_2772 rfl rfl ?_
  refine l_rs dL_law_2773 (fun v4 => ?_)
  refine l_ob fun q5 => ?_
  refine l_cI dL_law_2774 rfl rfl rfl (l_xv cl_14_332 ko_mX13_changeKind rfl rfl rfl q5) rfl rfl nm_mX13_changeKind (xhE_th rfl) (fun v7 h6 => ?_)
  refine l_loc (al1 := [(6, .int v7), (5, .int v3), (0, .retAddr 11), (1, .ref x1), (2, .ref x2), (3, .ref x3), (4, .int x4)]) dL_law_2777 rfl rfl ?_
  refine l_loc dL_law_2779 rfl rfl ?_
  refine l_ob fun q8 => ?_
  refine l_cI dL_law_2780 rfl rfl rfl (l_xv cl_14_195 ko_mX13_thrown rfl rfl rfl q8) rfl rfl nm_mX13_thrown (xhE_th rfl) (fun v10 h9 => ?_)
  refine l_loc dL_law_2783 rfl rfl ?_
  refine l_ceq (t := 2790) dL_law_2785 rfl ?_ ?_
  · refine l_loc dL_law_2790 rfl rfl ?_
    refine l_ine (t := 2807) dL_law_2792 rfl ?_ ?_
    · refine l_goto (t := 3482) dL_law_2807 rfl ?_
      exact l_al rfl ⟨rfl, rfl, rfl, rfl, rfl, trivial⟩
    · refine l_loc dL_law_2795 rfl rfl ?_
      refine l_ic dL_law_2796 kI_0 ?_
      refine l_rl dL_law_2797 (fun v11 => ?_)
      refine l_loc dL_law_2798 rfl rfl ?_
      refine l_pure dL_law_2800 rfl rfl ?_
      refine l_pure dL_law_2801 rfl rfl ?_
      refine l_ieq (t := 2807) dL_law_2802 rfl ?_ ?_
      · refine l_goto (t := 3482) dL_law_2807 rfl ?_
        exact l_al rfl ⟨rfl, rfl, rfl, rfl, rfl, trivial⟩
      · refine l_ic dL_law_2805 kI_0 ?_
        exact l_iretn dL_law_2806 rfl (by decide)
  · refine l_ic dL_law_2788 kI_0 ?_
    exact l_iretn dL_law_2789 rfl (by decide)
set_option maxRecDepth 16000 in
theorem w_L_law_2810 (S : xS) (x1 : Nat) (x2 : Nat) (x3 : Nat) (x4 : Int32) (h : xH) : xle ((xRs S (x4 + (1 : Int32))).bind fun v1 => xqI (xM S mL_changeRegion [.ref x1, .int v1, .ref x3] h) xth fun v3 h2 => (xRs S (x4 + (1 : Int32))).bind fun v4 => if xOb h2 x2 12 = true then xqI (xM S mX13_changeRegion [.ref x2, .int v4] h2) xth fun v7 h6 => if xOb h6 x2 12 = true then xqI (xM S mX13_thrown [.ref x2] h6) xth fun v10 h9 => if v10 = v3 then (if ¬ v3 = 0 then (xden S mL_law 3482 [(0, .retAddr 11), (1, .ref x1), (2, .ref x2), (3, .ref x3), (4, .int x4)] [] h9) else ((xRl h9 x3 (0 : Int32)).bind fun v11 => if (lg_cmp v11 (v7.toInt64)) = 0 then (xden S mL_law 3482 [(0, .retAddr 11), (1, .ref x1), (2, .ref x2), (3, .ref x3), (4, .int x4)] [] h9) else (some (.inl (some (.int (0 : Int32))), h9, 0, 0)))) else (some (.inl (some (.int (0 : Int32))), h9, 0, 0)) else none else none) (xden S mL_law 2810 [(0, .retAddr 11), (1, .ref x1), (2, .ref x2), (3, .ref x3), (4, .int x4)] [] h) := by
  refine l_loc dL_law_2810 rfl rfl ?_
  refine l_loc dL_law_2811 rfl rfl ?_
  refine l_loc dL_law_2812 rfl rfl ?_
  refine l_ic dL_law_2814 kI_1 ?_
  refine l_pure dL_law_2815 rfl rfl ?_
  refine l_rs dL_law_2816 (fun v1 => ?_)
  refine l_loc dL_law_2817 rfl rfl ?_
  refine l_cI dL_law_2818 rfl rfl rfl (l_xs cl_14_333 ko_mL_changeRegion rfl rfl) rfl rfl nm_mL_changeRegion (xhE_th rfl) (fun v3 h2 => ?_)
  refine l_loc (al1 := [(5, .int v3), (0, .retAddr 11), (1, .ref x1), (2, .ref x2), (3, .ref x3), (4, .int x4)]) dL_law_2821 rfl rfl ?_
  refine l_loc dL_law_2823 rfl rfl ?_
  refine l_loc dL_law_2824 rfl rfl ?_
  refine l_loc dL_law_2825 rfl rfl ?_
  refine l_ic dL_law_2827 kI_1 ?_
  refine l_pure dL_law_2828 rfl rfl ?_
  refine l_rs dL_law_2829 (fun v4 => ?_)
  refine l_ob fun q5 => ?_
  refine l_cI dL_law_2830 rfl rfl rfl (l_xv cl_14_335 ko_mX13_changeRegion rfl rfl rfl q5) rfl rfl nm_mX13_changeRegion (xhE_th rfl) (fun v7 h6 => ?_)
  refine l_loc (al1 := [(6, .int v7), (5, .int v3), (0, .retAddr 11), (1, .ref x1), (2, .ref x2), (3, .ref x3), (4, .int x4)]) dL_law_2833 rfl rfl ?_
  refine l_loc dL_law_2835 rfl rfl ?_
  refine l_ob fun q8 => ?_
  refine l_cI dL_law_2836 rfl rfl rfl (l_xv cl_14_195 ko_mX13_thrown rfl rfl rfl q8) rfl rfl nm_mX13_thrown (xhE_th rfl) (fun v10 h9 => ?_)
  refine l_loc dL_law_2839 rfl rfl ?_
  refine l_ceq (t := 2846) dL_law_2841 rfl ?_ ?_
  · refine l_loc dL_law_2846 rfl rfl ?_
    refine l_ine (t := 2863) dL_law_2848 rfl ?_ ?_
    · refine l_goto (t := 3482) dL_law_2863 rfl ?_
      exact l_al rfl ⟨rfl, rfl, rfl, rfl, rfl, trivial⟩
    · refine l_loc dL_law_2851 rfl rfl ?_
      refine l_ic dL_law_2852 kI_0 ?_
      refine l_rl dL_law_2853 (fun v11 => ?_)
      refine l_loc dL_law_2854 rfl rfl ?_
      refine l_pure dL_law_2856 rfl rfl ?_
      refine l_pure dL_law_2857 rfl rfl ?_
      refine l_ieq (t := 2863) dL_law_2858 rfl ?_ ?_
      · refine l_goto (t := 3482) dL_law_2863 rfl ?_
        exact l_al rfl ⟨rfl, rfl, rfl, rfl, rfl, trivial⟩
      · refine l_ic dL_law_2861 kI_0 ?_
        exact l_iretn dL_law_2862 rfl (by decide)
  · refine l_ic dL_law_2844 kI_0 ?_
    exact l_iretn dL_law_2845 rfl (by decide)
set_option maxRecDepth 16000 in
theorem w_L_law_2866 (S : xS) (x1 : Nat) (x2 : Nat) (x3 : Nat) (x4 : Int32) (h : xH) : xle ((xRs S (x4 + (1 : Int32))).bind fun v1 => xqI (xM S mL_changeTarget [.ref x1, .int v1, .ref x3] h) xth fun v3 h2 => (xRs S (x4 + (1 : Int32))).bind fun v4 => if xOb h2 x2 12 = true then xqI (xM S mX13_changeTarget [.ref x2, .int v4] h2) xth fun v7 h6 => if xOb h6 x2 12 = true then xqI (xM S mX13_thrown [.ref x2] h6) xth fun v10 h9 => if v10 = v3 then (if ¬ v3 = 0 then (xden S mL_law 3482 [(0, .retAddr 11), (1, .ref x1), (2, .ref x2), (3, .ref x3), (4, .int x4)] [] h9) else ((xRl h9 x3 (0 : Int32)).bind fun v11 => if (lg_cmp v11 (v7.toInt64)) = 0 then (xden S mL_law 3482 [(0, .retAddr 11), (1, .ref x1), (2, .ref x2), (3, .ref x3), (4, .int x4)] [] h9) else (some (.inl (some (.int (0 : Int32))), h9, 0, 0)))) else (some (.inl (some (.int (0 : Int32))), h9, 0, 0)) else none else none) (xden S mL_law 2866 [(0, .retAddr 11), (1, .ref x1), (2, .ref x2), (3, .ref x3), (4, .int x4)] [] h) := by
  refine l_loc dL_law_2866 rfl rfl ?_
  refine l_loc dL_law_2867 rfl rfl ?_
  refine l_loc dL_law_2868 rfl rfl ?_
  refine l_ic dL_law_2870 kI_1 ?_
  refine l_pure dL_law_2871 rfl rfl ?_
  refine l_rs dL_law_2872 (fun v1 => ?_)
  refine l_loc dL_law_2873 rfl rfl ?_
  refine l_cI dL_law_2874 rfl rfl rfl (l_xs cl_14_336 ko_mL_changeTarget rfl rfl) rfl rfl nm_mL_changeTarget (xhE_th rfl) (fun v3 h2 => ?_)
  refine l_loc (al1 := [(5, .int v3), (0, .retAddr 11), (1, .ref x1), (2, .ref x2), (3, .ref x3), (4, .int x4)]) dL_law_2877 rfl rfl ?_
  refine l_loc dL_law_2879 rfl rfl ?_
  refine l_loc dL_law_2880 rfl rfl ?_
  refine l_loc dL_law_2881 rfl rfl ?_
  refine l_ic dL_law_2883 kI_1 ?_
  refine l_pure dL_law_2884 rfl rfl ?_
  refine l_rs dL_law_2885 (fun v4 => ?_)
  refine l_ob fun q5 => ?_
  refine l_cI dL_law_2886 rfl rfl rfl (l_xv cl_14_338 ko_mX13_changeTarget rfl rfl rfl q5) rfl rfl nm_mX13_changeTarget (xhE_th rfl) (fun v7 h6 => ?_)
  refine l_loc (al1 := [(6, .int v7), (5, .int v3), (0, .retAddr 11), (1, .ref x1), (2, .ref x2), (3, .ref x3), (4, .int x4)]) dL_law_2889 rfl rfl ?_
  refine l_loc dL_law_2891 rfl rfl ?_
  refine l_ob fun q8 => ?_
  refine l_cI dL_law_2892 rfl rfl rfl (l_xv cl_14_195 ko_mX13_thrown rfl rfl rfl q8) rfl rfl nm_mX13_thrown (xhE_th rfl) (fun v10 h9 => ?_)
  refine l_loc dL_law_2895 rfl rfl ?_
  refine l_ceq (t := 2902) dL_law_2897 rfl ?_ ?_
  · refine l_loc dL_law_2902 rfl rfl ?_
    refine l_ine (t := 2919) dL_law_2904 rfl ?_ ?_
    · refine l_goto (t := 3482) dL_law_2919 rfl ?_
      exact l_al rfl ⟨rfl, rfl, rfl, rfl, rfl, trivial⟩
    · refine l_loc dL_law_2907 rfl rfl ?_
      refine l_ic dL_law_2908 kI_0 ?_
      refine l_rl dL_law_2909 (fun v11 => ?_)
      refine l_loc dL_law_2910 rfl rfl ?_
      refine l_pure dL_law_2912 rfl rfl ?_
      refine l_pure dL_law_2913 rfl rfl ?_
      refine l_ieq (t := 2919) dL_law_2914 rfl ?_ ?_
      · refine l_goto (t := 3482) dL_law_2919 rfl ?_
        exact l_al rfl ⟨rfl, rfl, rfl, rfl, rfl, trivial⟩
      · refine l_ic dL_law_2917 kI_0 ?_
        exact l_iretn dL_law_2918 rfl (by decide)
  · refine l_ic dL_law_2900 kI_0 ?_
    exact l_iretn dL_law_2901 rfl (by decide)
set_option maxRecDepth 16000 in
theorem w_L_law_2922 (S : xS) (x1 : Nat) (x2 : Nat) (x3 : Nat) (x4 : Int32) (h : xH) : xle ((xRs S (x4 + (1 : Int32))).bind fun v1 => xqI (xM S mL_moveX [.ref x1, .int v1, .ref x3] h) xth fun v3 h2 => (xRs S (x4 + (1 : Int32))).bind fun v4 => if xOb h2 x2 12 = true then xqI (xM S mX13_moveX [.ref x2, .int v4] h2) xth fun v7 h6 => if xOb h6 x2 12 = true then xqI (xM S mX13_thrown [.ref x2] h6) xth fun v10 h9 => if v10 = v3 then (if ¬ v3 = 0 then (xden S mL_law 3482 [(0, .retAddr 11), (1, .ref x1), (2, .ref x2), (3, .ref x3), (4, .int x4)] [] h9) else ((xRl h9 x3 (0 : Int32)).bind fun v11 => if (lg_cmp v11 (v7.toInt64)) = 0 then (xden S mL_law 3482 [(0, .retAddr 11), (1, .ref x1), (2, .ref x2), (3, .ref x3), (4, .int x4)] [] h9) else (some (.inl (some (.int (0 : Int32))), h9, 0, 0)))) else (some (.inl (some (.int (0 : Int32))), h9, 0, 0)) else none else none) (xden S mL_law 2922 [(0, .retAddr 11), (1, .ref x1), (2, .ref x2), (3, .ref x3), (4, .int x4)] [] h) := by
  refine l_loc dL_law_2922 rfl rfl ?_
  refine l_loc dL_law_2923 rfl rfl ?_
  refine l_loc dL_law_2924 rfl rfl ?_
  refine l_ic dL_law_2926 kI_1 ?_
  refine l_pure dL_law_2927 rfl rfl ?_
  refine l_rs dL_law_2928 (fun v1 => ?_)
  refine l_loc dL_law_2929 rfl rfl ?_
  refine l_cI dL_law_2930 rfl rfl rfl (l_xs cl_14_339 ko_mL_moveX rfl rfl) rfl rfl nm_mL_moveX (xhE_th rfl) (fun v3 h2 => ?_)
  refine l_loc (al1 := [(5, .int v3), (0, .retAddr 11), (1, .ref x1), (2, .ref x2), (3, .ref x3), (4, .int x4)]) dL_law_2933 rfl rfl ?_
  refine l_loc dL_law_2935 rfl rfl ?_
  refine l_loc dL_law_2936 rfl rfl ?_
  refine l_loc dL_law_2937 rfl rfl ?_
  refine l_ic dL_law_2939 kI_1 ?_
  refine l_pure dL_law_2940 rfl rfl ?_
  refine l_rs dL_law_2941 (fun v4 => ?_)
  refine l_ob fun q5 => ?_
  refine l_cI dL_law_2942 rfl rfl rfl (l_xv cl_14_341 ko_mX13_moveX rfl rfl rfl q5) rfl rfl nm_mX13_moveX (xhE_th rfl) (fun v7 h6 => ?_)
  refine l_loc (al1 := [(6, .int v7), (5, .int v3), (0, .retAddr 11), (1, .ref x1), (2, .ref x2), (3, .ref x3), (4, .int x4)]) dL_law_2945 rfl rfl ?_
  refine l_loc dL_law_2947 rfl rfl ?_
  refine l_ob fun q8 => ?_
  refine l_cI dL_law_2948 rfl rfl rfl (l_xv cl_14_195 ko_mX13_thrown rfl rfl rfl q8) rfl rfl nm_mX13_thrown (xhE_th rfl) (fun v10 h9 => ?_)
  refine l_loc dL_law_2951 rfl rfl ?_
  refine l_ceq (t := 2958) dL_law_2953 rfl ?_ ?_
  · refine l_loc dL_law_2958 rfl rfl ?_
    refine l_ine (t := 2975) dL_law_2960 rfl ?_ ?_
    · refine l_goto (t := 3482) dL_law_2975 rfl ?_
      exact l_al rfl ⟨rfl, rfl, rfl, rfl, rfl, trivial⟩
    · refine l_loc dL_law_2963 rfl rfl ?_
      refine l_ic dL_law_2964 kI_0 ?_
      refine l_rl dL_law_2965 (fun v11 => ?_)
      refine l_loc dL_law_2966 rfl rfl ?_
      refine l_pure dL_law_2968 rfl rfl ?_
      refine l_pure dL_law_2969 rfl rfl ?_
      refine l_ieq (t := 2975) dL_law_2970 rfl ?_ ?_
      · refine l_goto (t := 3482) dL_law_2975 rfl ?_
        exact l_al rfl ⟨rfl, rfl, rfl, rfl, rfl, trivial⟩
      · refine l_ic dL_law_2973 kI_0 ?_
        exact l_iretn dL_law_2974 rfl (by decide)
  · refine l_ic dL_law_2956 kI_0 ?_
    exact l_iretn dL_law_2957 rfl (by decide)
set_option maxRecDepth 16000 in
theorem w_L_law_2978 (S : xS) (x1 : Nat) (x2 : Nat) (x3 : Nat) (x4 : Int32) (h : xH) : xle ((xRs S (x4 + (1 : Int32))).bind fun v1 => xqI (xM S mL_moveY [.ref x1, .int v1, .ref x3] h) xth fun v3 h2 => (xRs S (x4 + (1 : Int32))).bind fun v4 => if xOb h2 x2 12 = true then xqI (xM S mX13_moveY [.ref x2, .int v4] h2) xth fun v7 h6 => if xOb h6 x2 12 = true then xqI (xM S mX13_thrown [.ref x2] h6) xth fun v10 h9 => if v10 = v3 then (if ¬ v3 = 0 then (xden S mL_law 3482 [(0, .retAddr 11), (1, .ref x1), (2, .ref x2), (3, .ref x3), (4, .int x4)] [] h9) else ((xRl h9 x3 (0 : Int32)).bind fun v11 => if (lg_cmp v11 (v7.toInt64)) = 0 then (xden S mL_law 3482 [(0, .retAddr 11), (1, .ref x1), (2, .ref x2), (3, .ref x3), (4, .int x4)] [] h9) else (some (.inl (some (.int (0 : Int32))), h9, 0, 0)))) else (some (.inl (some (.int (0 : Int32))), h9, 0, 0)) else none else none) (xden S mL_law 2978 [(0, .retAddr 11), (1, .ref x1), (2, .ref x2), (3, .ref x3), (4, .int x4)] [] h) := by
  refine l_loc dL_law_2978 rfl rfl ?_
  refine l_loc dL_law_2979 rfl rfl ?_
  refine l_loc dL_law_2980 rfl rfl ?_
  refine l_ic dL_law_2982 kI_1 ?_
  refine l_pure dL_law_2983 rfl rfl ?_
  refine l_rs dL_law_2984 (fun v1 => ?_)
  refine l_loc dL_law_2985 rfl rfl ?_
  refine l_cI dL_law_2986 rfl rfl rfl (l_xs cl_14_342 ko_mL_moveY rfl rfl) rfl rfl nm_mL_moveY (xhE_th rfl) (fun v3 h2 => ?_)
  refine l_loc (al1 := [(5, .int v3), (0, .retAddr 11), (1, .ref x1), (2, .ref x2), (3, .ref x3), (4, .int x4)]) dL_law_2989 rfl rfl ?_
  refine l_loc dL_law_2991 rfl rfl ?_
  refine l_loc dL_law_2992 rfl rfl ?_
  refine l_loc dL_law_2993 rfl rfl ?_
  refine l_ic dL_law_2995 kI_1 ?_
  refine l_pure dL_law_2996 rfl rfl ?_
  refine l_rs dL_law_2997 (fun v4 => ?_)
  refine l_ob fun q5 => ?_
  refine l_cI dL_law_2998 rfl rfl rfl (l_xv cl_14_344 ko_mX13_moveY rfl rfl rfl q5) rfl rfl nm_mX13_moveY (xhE_th rfl) (fun v7 h6 => ?_)
  refine l_loc (al1 := [(6, .int v7), (5, .int v3), (0, .retAddr 11), (1, .ref x1), (2, .ref x2), (3, .ref x3), (4, .int x4)]) dL_law_3001 rfl rfl ?_
  refine l_loc dL_law_3003 rfl rfl ?_
  refine l_ob fun q8 => ?_
  refine l_cI dL_law_3004 rfl rfl rfl (l_xv cl_14_195 ko_mX13_thrown rfl rfl rfl q8) rfl rfl nm_mX13_thrown (xhE_th rfl) (fun v10 h9 => ?_)
  refine l_loc dL_law_3007 rfl rfl ?_
  refine l_ceq (t := 3014) dL_law_3009 rfl ?_ ?_
  · refine l_loc dL_law_3014 rfl rfl ?_
    refine l_ine (t := 3031) dL_law_3016 rfl ?_ ?_
    · refine l_goto (t := 3482) dL_law_3031 rfl ?_
      exact l_al rfl ⟨rfl, rfl, rfl, rfl, rfl, trivial⟩
    · refine l_loc dL_law_3019 rfl rfl ?_
      refine l_ic dL_law_3020 kI_0 ?_
      refine l_rl dL_law_3021 (fun v11 => ?_)
      refine l_loc dL_law_3022 rfl rfl ?_
      refine l_pure dL_law_3024 rfl rfl ?_
      refine l_pure dL_law_3025 rfl rfl ?_
      refine l_ieq (t := 3031) dL_law_3026 rfl ?_ ?_
      · refine l_goto (t := 3482) dL_law_3031 rfl ?_
        exact l_al rfl ⟨rfl, rfl, rfl, rfl, rfl, trivial⟩
      · refine l_ic dL_law_3029 kI_0 ?_
        exact l_iretn dL_law_3030 rfl (by decide)
  · refine l_ic dL_law_3012 kI_0 ?_
    exact l_iretn dL_law_3013 rfl (by decide)
