set_option maxRecDepth 100000 in
theorem lay_0 : ∀ k, k < 6 → u_lay RX0 TX0 k ∈ lw_good := by
  intro k hk
  match k, hk with
  | 0, _ => exact gm 352 (by decide +kernel)
  | 1, _ => exact gm 354 (by decide +kernel)
  | 2, _ => exact gm 356 (by decide +kernel)
  | 3, _ => exact gm 358 (by decide +kernel)
  | 4, _ => exact gm 360 (by decide +kernel)
  | 5, _ => exact gm 362 (by decide +kernel)
set_option maxRecDepth 100000 in
theorem lay_1 : ∀ k, k < 7 → u_lay RX1 TX1 k ∈ lw_good := by
  intro k hk
  match k, hk with
  | 0, _ => exact gm 533 (by decide +kernel)
  | 1, _ => exact gm 535 (by decide +kernel)
  | 2, _ => exact gm 537 (by decide +kernel)
  | 3, _ => exact gm 539 (by decide +kernel)
  | 4, _ => exact gm 541 (by decide +kernel)
  | 5, _ => exact gm 543 (by decide +kernel)
  | 6, _ => exact gm 545 (by decide +kernel)
set_option maxRecDepth 100000 in
theorem lay_2 : ∀ k, k < 13 → u_lay RX2 TX2 k ∈ lw_good := by
  intro k hk
  match k, hk with
  | 0, _ => exact gm 600 (by decide +kernel)
  | 1, _ => exact gm 602 (by decide +kernel)
  | 2, _ => exact gm 604 (by decide +kernel)
  | 3, _ => exact gm 606 (by decide +kernel)
  | 4, _ => exact gm 608 (by decide +kernel)
  | 5, _ => exact gm 610 (by decide +kernel)
  | 6, _ => exact gm 612 (by decide +kernel)
  | 7, _ => exact gm 614 (by decide +kernel)
  | 8, _ => exact gm 616 (by decide +kernel)
  | 9, _ => exact gm 618 (by decide +kernel)
  | 10, _ => exact gm 620 (by decide +kernel)
  | 11, _ => exact gm 622 (by decide +kernel)
  | 12, _ => exact gm 624 (by decide +kernel)
set_option maxRecDepth 100000 in
theorem lay_3 : ∀ k, k < 3 → u_lay RX3 TX3 k ∈ lw_good := by
  intro k hk
  match k, hk with
  | 0, _ => exact gm 332 (by decide +kernel)
  | 1, _ => exact gm 334 (by decide +kernel)
  | 2, _ => exact gm 336 (by decide +kernel)
set_option maxRecDepth 100000 in
theorem lay_4 : ∀ k, k < 9 → u_lay RX4 TX4 k ∈ lw_good := by
  intro k hk
  match k, hk with
  | 0, _ => exact gm 242 (by decide +kernel)
  | 1, _ => exact gm 244 (by decide +kernel)
  | 2, _ => exact gm 246 (by decide +kernel)
  | 3, _ => exact gm 248 (by decide +kernel)
  | 4, _ => exact gm 250 (by decide +kernel)
  | 5, _ => exact gm 252 (by decide +kernel)
  | 6, _ => exact gm 254 (by decide +kernel)
  | 7, _ => exact gm 256 (by decide +kernel)
  | 8, _ => exact gm 258 (by decide +kernel)
set_option maxRecDepth 100000 in
theorem lay_5 : ∀ k, k < 7 → u_lay RX5 TX5 k ∈ lw_good := by
  intro k hk
  match k, hk with
  | 0, _ => exact gm 562 (by decide +kernel)
  | 1, _ => exact gm 564 (by decide +kernel)
  | 2, _ => exact gm 566 (by decide +kernel)
  | 3, _ => exact gm 568 (by decide +kernel)
  | 4, _ => exact gm 570 (by decide +kernel)
  | 5, _ => exact gm 572 (by decide +kernel)
  | 6, _ => exact gm 574 (by decide +kernel)
set_option maxRecDepth 100000 in
theorem lay_6 : ∀ k, k < 9 → u_lay RX6 TX6 k ∈ lw_good := by
  intro k hk
  match k, hk with
  | 0, _ => exact gm 481 (by decide +kernel)
  | 1, _ => exact gm 483 (by decide +kernel)
  | 2, _ => exact gm 485 (by decide +kernel)
  | 3, _ => exact gm 487 (by decide +kernel)
  | 4, _ => exact gm 489 (by decide +kernel)
  | 5, _ => exact gm 491 (by decide +kernel)
  | 6, _ => exact gm 493 (by decide +kernel)
  | 7, _ => exact gm 495 (by decide +kernel)
  | 8, _ => exact gm 497 (by decide +kernel)
set_option maxRecDepth 100000 in
theorem lay_7 : ∀ k, k < 5 → u_lay RX7 TX7 k ∈ lw_good := by
  intro k hk
  match k, hk with
  | 0, _ => exact gm 306 (by decide +kernel)
  | 1, _ => exact gm 308 (by decide +kernel)
  | 2, _ => exact gm 310 (by decide +kernel)
  | 3, _ => exact gm 312 (by decide +kernel)
  | 4, _ => exact gm 314 (by decide +kernel)
set_option maxRecDepth 100000 in
theorem lay_8 : ∀ k, k < 4 → u_lay RX8 TX8 k ∈ lw_good := by
  intro k hk
  match k, hk with
  | 0, _ => exact gm 275 (by decide +kernel)
  | 1, _ => exact gm 277 (by decide +kernel)
  | 2, _ => exact gm 279 (by decide +kernel)
  | 3, _ => exact gm 281 (by decide +kernel)
set_option maxRecDepth 100000 in
theorem lay_9 : ∀ k, k < 16 → u_lay RX9 TX9 k ∈ lw_good := by
  intro k hk
  match k, hk with
  | 0, _ => exact gm 422 (by decide +kernel)
  | 1, _ => exact gm 424 (by decide +kernel)
  | 2, _ => exact gm 426 (by decide +kernel)
  | 3, _ => exact gm 428 (by decide +kernel)
  | 4, _ => exact gm 430 (by decide +kernel)
  | 5, _ => exact gm 432 (by decide +kernel)
  | 6, _ => exact gm 434 (by decide +kernel)
  | 7, _ => exact gm 436 (by decide +kernel)
  | 8, _ => exact gm 438 (by decide +kernel)
  | 9, _ => exact gm 440 (by decide +kernel)
  | 10, _ => exact gm 442 (by decide +kernel)
  | 11, _ => exact gm 444 (by decide +kernel)
  | 12, _ => exact gm 446 (by decide +kernel)
  | 13, _ => exact gm 448 (by decide +kernel)
  | 14, _ => exact gm 450 (by decide +kernel)
  | 15, _ => exact gm 452 (by decide +kernel)
  | n + 16, h => exact absurd h (by omega)
set_option maxRecDepth 100000 in
theorem lay_10 : ∀ k, k < 3 → u_lay RX10 TX10 k ∈ lw_good := by
  intro k hk
  match k, hk with
  | 0, _ => exact gm 513 (by decide +kernel)
  | 1, _ => exact gm 515 (by decide +kernel)
  | 2, _ => exact gm 517 (by decide +kernel)
set_option maxRecDepth 100000 in
theorem lay_11 : ∀ k, k < 20 → u_lay RX11 TX11 k ∈ lw_good := by
  intro k hk
  match k, hk with
  | 0, _ => exact gm 660 (by decide +kernel)
  | 1, _ => exact gm 662 (by decide +kernel)
  | 2, _ => exact gm 664 (by decide +kernel)
  | 3, _ => exact gm 666 (by decide +kernel)
  | 4, _ => exact gm 668 (by decide +kernel)
  | 5, _ => exact gm 670 (by decide +kernel)
  | 6, _ => exact gm 672 (by decide +kernel)
  | 7, _ => exact gm 674 (by decide +kernel)
  | 8, _ => exact gm 676 (by decide +kernel)
  | 9, _ => exact gm 678 (by decide +kernel)
  | 10, _ => exact gm 680 (by decide +kernel)
  | 11, _ => exact gm 682 (by decide +kernel)
  | 12, _ => exact gm 684 (by decide +kernel)
  | 13, _ => exact gm 686 (by decide +kernel)
  | 14, _ => exact gm 688 (by decide +kernel)
  | 15, _ => exact gm 690 (by decide +kernel)
  | 16, _ => exact gm 692 (by decide +kernel)
  | 17, _ => exact gm 694 (by decide +kernel)
  | 18, _ => exact gm 696 (by decide +kernel)
  | 19, _ => exact gm 698 (by decide +kernel)
  | n + 20, h => exact absurd h (by omega)
set_option maxRecDepth 100000 in
theorem lay_12 : ∀ k, k < 85 → u_lay RX12 TX12 k ∈ lw_good := by
  intro k hk
  match k, hk with
  | 0, _ => exact gm 1606 (by decide +kernel)
  | 1, _ => exact gm 1608 (by decide +kernel)
  | 2, _ => exact gm 1610 (by decide +kernel)
  | 3, _ => exact gm 1612 (by decide +kernel)
  | 4, _ => exact gm 1614 (by decide +kernel)
  | 5, _ => exact gm 1616 (by decide +kernel)
  | 6, _ => exact gm 1618 (by decide +kernel)
  | 7, _ => exact gm 1620 (by decide +kernel)
  | 8, _ => exact gm 1622 (by decide +kernel)
  | 9, _ => exact gm 1624 (by decide +kernel)
  | 10, _ => exact gm 1626 (by decide +kernel)
  | 11, _ => exact gm 1628 (by decide +kernel)
  | 12, _ => exact gm 1630 (by decide +kernel)
  | 13, _ => exact gm 1632 (by decide +kernel)
  | 14, _ => exact gm 1634 (by decide +kernel)
  | 15, _ => exact gm 1636 (by decide +kernel)
  | 16, _ => exact gm 1638 (by decide +kernel)
  | 17, _ => exact gm 1640 (by decide +kernel)
  | 18, _ => exact gm 1642 (by decide +kernel)
  | 19, _ => exact gm 1644 (by decide +kernel)
  | 20, _ => exact gm 1646 (by decide +kernel)
  | 21, _ => exact gm 1648 (by decide +kernel)
  | 22, _ => exact gm 1650 (by decide +kernel)
  | 23, _ => exact gm 1652 (by decide +kernel)
  | 24, _ => exact gm 1654 (by decide +kernel)
  | 25, _ => exact gm 1656 (by decide +kernel)
  | 26, _ => exact gm 1658 (by decide +kernel)
  | 27, _ => exact gm 1660 (by decide +kernel)
  | 28, _ => exact gm 1662 (by decide +kernel)
  | 29, _ => exact gm 1664 (by decide +kernel)
  | 30, _ => exact gm 1666 (by decide +kernel)
  | 31, _ => exact gm 1668 (by decide +kernel)
  | 32, _ => exact gm 1670 (by decide +kernel)
  | 33, _ => exact gm 1672 (by decide +kernel)
  | 34, _ => exact gm 1674 (by decide +kernel)
  | 35, _ => exact gm 1676 (by decide +kernel)
  | 36, _ => exact gm 1678 (by decide +kernel)
  | 37, _ => exact gm 1680 (by decide +kernel)
  | 38, _ => exact gm 1682 (by decide +kernel)
  | 39, _ => exact gm 1684 (by decide +kernel)
  | 40, _ => exact gm 1686 (by decide +kernel)
  | 41, _ => exact gm 1688 (by decide +kernel)
  | 42, _ => exact gm 1690 (by decide +kernel)
  | 43, _ => exact gm 1692 (by decide +kernel)
  | 44, _ => exact gm 1694 (by decide +kernel)
  | 45, _ => exact gm 1696 (by decide +kernel)
  | 46, _ => exact gm 1698 (by decide +kernel)
  | 47, _ => exact gm 1700 (by decide +kernel)
  | 48, _ => exact gm 1702 (by decide +kernel)
  | 49, _ => exact gm 1704 (by decide +kernel)
  | 50, _ => exact gm 1706 (by decide +kernel)
  | 51, _ => exact gm 1708 (by decide +kernel)
  | 52, _ => exact gm 1710 (by decide +kernel)
  | 53, _ => exact gm 1712 (by decide +kernel)
  | 54, _ => exact gm 1714 (by decide +kernel)
  | 55, _ => exact gm 1716 (by decide +kernel)
  | 56, _ => exact gm 1718 (by decide +kernel)
  | 57, _ => exact gm 1720 (by decide +kernel)
  | 58, _ => exact gm 1722 (by decide +kernel)
  | 59, _ => exact gm 1724 (by decide +kernel)
  | 60, _ => exact gm 1726 (by decide +kernel)
  | 61, _ => exact gm 1728 (by decide +kernel)
  | 62, _ => exact gm 1730 (by decide +kernel)
  | 63, _ => exact gm 1732 (by decide +kernel)
  | 64, _ => exact gm 1734 (by decide +kernel)
  | 65, _ => exact gm 1736 (by decide +kernel)
  | 66, _ => exact gm 1738 (by decide +kernel)
  | 67, _ => exact gm 1740 (by decide +kernel)
  | 68, _ => exact gm 1742 (by decide +kernel)
  | 69, _ => exact gm 1744 (by decide +kernel)
  | 70, _ => exact gm 1746 (by decide +kernel)
  | 71, _ => exact gm 1748 (by decide +kernel)
  | 72, _ => exact gm 1750 (by decide +kernel)
  | 73, _ => exact gm 1752 (by decide +kernel)
  | 74, _ => exact gm 1754 (by decide +kernel)
  | 75, _ => exact gm 1756 (by decide +kernel)
  | 76, _ => exact gm 1758 (by decide +kernel)
  | 77, _ => exact gm 1760 (by decide +kernel)
  | 78, _ => exact gm 1762 (by decide +kernel)
  | 79, _ => exact gm 1764 (by decide +kernel)
  | 80, _ => exact gm 1766 (by decide +kernel)
  | 81, _ => exact gm 1768 (by decide +kernel)
  | 82, _ => exact gm 1770 (by decide +kernel)
  | 83, _ => exact gm 1772 (by decide +kernel)
  | 84, _ => exact gm 1774 (by decide +kernel)
  | n + 85, h => exact absurd h (by omega)
theorem lay_good : ∀ (ci : Nat) (q : vw_C), vwCl[ci]? = some q → ∀ w ∈ u_ws q.1 q.2.1 q.2.2, w ∈ lw_good := by
  intro ci q hq w hw
  obtain ⟨k, hk, rfl⟩ := List.mem_map.mp hw
  have hk := List.mem_range.mp hk
  have hc : ci < 13 := (List.getElem?_eq_some_iff.mp hq).1
  match ci, hc with
  | 0, _ => cases hq; exact lay_0 k hk
  | 1, _ => cases hq; exact lay_1 k hk
  | 2, _ => cases hq; exact lay_2 k hk
  | 3, _ => cases hq; exact lay_3 k hk
  | 4, _ => cases hq; exact lay_4 k hk
  | 5, _ => cases hq; exact lay_5 k hk
  | 6, _ => cases hq; exact lay_6 k hk
  | 7, _ => cases hq; exact lay_7 k hk
  | 8, _ => cases hq; exact lay_8 k hk
  | 9, _ => cases hq; exact lay_9 k hk
  | 10, _ => cases hq; exact lay_10 k hk
  | 11, _ => cases hq; exact lay_11 k hk
  | 12, _ => cases hq; exact lay_12 k hk
theorem inst_good : ∀ (ci : Nat) (q : vw_C), vwCl[ci]? = some q → Cond.instantiable q.1 q.2.2 ∈ lw_good := by
  intro ci q hq
  have hc : ci < 13 := (List.getElem?_eq_some_iff.mp hq).1
  match ci, hc with
  | 0, _ => cases hq; exact gm 340 (by decide +kernel)
  | 1, _ => cases hq; exact gm 521 (by decide +kernel)
  | 2, _ => cases hq; exact gm 578 (by decide +kernel)
  | 3, _ => cases hq; exact gm 318 (by decide +kernel)
  | 4, _ => cases hq; exact gm 178 (by decide +kernel)
  | 5, _ => cases hq; exact gm 549 (by decide +kernel)
  | 6, _ => cases hq; exact gm 456 (by decide +kernel)
  | 7, _ => cases hq; exact gm 291 (by decide +kernel)
  | 8, _ => cases hq; exact gm 265 (by decide +kernel)
  | 9, _ => cases hq; exact gm 285 (by decide +kernel)
  | 10, _ => cases hq; exact gm 502 (by decide +kernel)
  | 11, _ => cases hq; exact gm 170 (by decide +kernel)
  | 12, _ => cases hq; exact gm 1502 (by decide +kernel)
