/-! ===== the law: a case a call, more ===== -/
theorem lw_c15 {V : VV} {b B Ln t cs ss : Nat} {xs : Nat → Int32} {h : AH} (hb : V.2.1.2.1 = code) (ow : V.2.1.1.cls = RL) (hr : V.2.2.1 = room_1) (hx : gX V.1 = (b, Ln, xs)) (ht : 5 * t + 5 ≤ Ln) (hl : Ln ≤ 320) (hc : cs ≤ 1000 ∧ ss ≤ 100000) (H : INV h B) (K : ∀ h', INV h' B → AW V (cs + 6) (ss + 271) h' 1131 [(0, .ref b), (1, .ref B), (2, .ref (B + 51)), (3, .int (nI (5 * t)))] []) : AW V cs ss h 665 [(0, .ref b), (1, .ref B), (2, .ref (B + 51)), (3, .int (nI (5 * t)))] [] := by
  obtain ⟨v, K_, dx, mc, ms, dm, ⟨q1, q2, q3, q4⟩, mx, mm⟩ := s_inertia V.1 h B H (xs (5 * t + 1))
  refine a_aload_n hb dL_law_665 rfl 1 rfl ?_
  refine a_aload_n hb dL_law_666 rfl 0 rfl ?_
  refine a_iload_n hb dL_law_667 rfl 3 rfl ?_
  refine a_iconst (v := 1) hb dL_law_668 (by decide) ?_
  refine a_iadd hb dL_law_669 ?_
  refine b_lds (j := 5 * t + 1) hb hx dL_law_670 (IX.add (IX.n (by omega)) ⟨by decide, by decide⟩ (by omega)) (by omega) ?_
  refine a_callV hb dL_law_671 mx (by rw [ow]; exact clv_RL_82) (H.1.1 0 (by decide)) (by decide) rfl rfl rfl (Nat.le_of_ble_eq_true rfl) (by rw [hr]; exact ⟨show dx + 1 ≤ 2048 from by omega, show 8 + (3 + 11) + 64 * dx ≤ 84000 from by omega⟩) (by rw [hr]; exact ⟨show cs + mc ≤ 600000 from by omega, show ss + ms ≤ 7302250 from by omega⟩) ?_
  intro rv h1 hq_
  obtain ⟨hv_, hk_⟩ := hq_
  subst hv_
  obtain ⟨l1, am2⟩ := mm h1 hk_
  show AW V (cs + mc) (ss + ms) h1 674 [(0, .ref b), (1, .ref B), (2, .ref (B + 51)), (3, .int (nI (5 * t)))] [.int v]
  refine a_aload_n hb dL_law_674 rfl 2 rfl ?_
  refine a_aload_n hb dL_law_675 rfl 0 rfl ?_
  refine a_iload_n hb dL_law_676 rfl 3 rfl ?_
  refine a_iconst (v := 1) hb dL_law_677 (by decide) ?_
  refine a_iadd hb dL_law_678 ?_
  refine b_lds (j := 5 * t + 1) hb hx dL_law_679 (IX.add (IX.n (by omega)) ⟨by decide, by decide⟩ (by omega)) (by omega) ?_
  refine a_callV hb dL_law_680 am2 (by rw [ow]; exact clv_RL_85) (l1.1 51 (by decide)) (by decide) rfl rfl rfl (Nat.le_of_ble_eq_true rfl) (by rw [hr]; exact ⟨show dm + 1 ≤ 2048 from by omega, show 8 + (3 + 11) + 64 * dm ≤ 84000 from by omega⟩) (by rw [hr]; exact ⟨show cs + mc + 0 ≤ 600000 from by omega, show ss + ms + 0 ≤ 7302250 from by omega⟩) ?_
  intro rv h2 hq_
  obtain ⟨hv_, hi_⟩ := hq_
  subst hv_
  show AW V (cs + mc) (ss + ms) h2 683 [(0, .ref b), (1, .ref B), (2, .ref (B + 51)), (3, .int (nI (5 * t)))] [.int v, .int v]
  refine a_icmp_eq hb 1131 dL_law_683 (by decide) (fun c => ?_) (fun c => absurd rfl c)
  exact AW.wide (by omega) (by omega) (K h2 hi_)
theorem lw_c16 {V : VV} {b B Ln t cs ss : Nat} {xs : Nat → Int32} {h : AH} (hb : V.2.1.2.1 = code) (ow : V.2.1.1.cls = RL) (hr : V.2.2.1 = room_1) (hx : gX V.1 = (b, Ln, xs)) (ht : 5 * t + 5 ≤ Ln) (hl : Ln ≤ 320) (hc : cs ≤ 1000 ∧ ss ≤ 100000) (H : INV h B) (K : ∀ h', INV h' B → AW V (cs + 6) (ss + 271) h' 1131 [(0, .ref b), (1, .ref B), (2, .ref (B + 51)), (3, .int (nI (5 * t)))] []) : AW V cs ss h 688 [(0, .ref b), (1, .ref B), (2, .ref (B + 51)), (3, .int (nI (5 * t)))] [] := by
  obtain ⟨v, K_, dx, mc, ms, dm, ⟨q1, q2, q3, q4⟩, mx, mm⟩ := s_best V.1 h B H (xs (5 * t + 1)) (xs (5 * t + 2)) (xs (5 * t + 3))
  refine a_aload_n hb dL_law_688 rfl 1 rfl ?_
  refine a_aload_n hb dL_law_689 rfl 0 rfl ?_
  refine a_iload_n hb dL_law_690 rfl 3 rfl ?_
  refine a_iconst (v := 1) hb dL_law_691 (by decide) ?_
  refine a_iadd hb dL_law_692 ?_
  refine b_lds (j := 5 * t + 1) hb hx dL_law_693 (IX.add (IX.n (by omega)) ⟨by decide, by decide⟩ (by omega)) (by omega) ?_
  refine a_aload_n hb dL_law_694 rfl 0 rfl ?_
  refine a_iload_n hb dL_law_695 rfl 3 rfl ?_
  refine a_iconst (v := 2) hb dL_law_696 (by decide) ?_
  refine a_iadd hb dL_law_697 ?_
  refine b_lds (j := 5 * t + 2) hb hx dL_law_698 (IX.add (IX.n (by omega)) ⟨by decide, by decide⟩ (by omega)) (by omega) ?_
  refine a_aload_n hb dL_law_699 rfl 0 rfl ?_
  refine a_iload_n hb dL_law_700 rfl 3 rfl ?_
  refine a_iconst (v := 3) hb dL_law_701 (by decide) ?_
  refine a_iadd hb dL_law_702 ?_
  refine b_lds (j := 5 * t + 3) hb hx dL_law_703 (IX.add (IX.n (by omega)) ⟨by decide, by decide⟩ (by omega)) (by omega) ?_
  refine a_callV hb dL_law_704 mx (by rw [ow]; exact clv_RL_86) (H.1.1 0 (by decide)) (by decide) rfl rfl rfl (Nat.le_of_ble_eq_true rfl) (by rw [hr]; exact ⟨show dx + 1 ≤ 2048 from by omega, show 8 + (5 + 11) + 64 * dx ≤ 84000 from by omega⟩) (by rw [hr]; exact ⟨show cs + mc ≤ 600000 from by omega, show ss + ms ≤ 7302250 from by omega⟩) ?_
  intro rv h1 hq_
  obtain ⟨hv_, hk_⟩ := hq_
  subst hv_
  obtain ⟨l1, am2⟩ := mm h1 hk_
  show AW V (cs + mc) (ss + ms) h1 707 [(0, .ref b), (1, .ref B), (2, .ref (B + 51)), (3, .int (nI (5 * t)))] [.int v]
  refine a_aload_n hb dL_law_707 rfl 2 rfl ?_
  refine a_aload_n hb dL_law_708 rfl 0 rfl ?_
  refine a_iload_n hb dL_law_709 rfl 3 rfl ?_
  refine a_iconst (v := 1) hb dL_law_710 (by decide) ?_
  refine a_iadd hb dL_law_711 ?_
  refine b_lds (j := 5 * t + 1) hb hx dL_law_712 (IX.add (IX.n (by omega)) ⟨by decide, by decide⟩ (by omega)) (by omega) ?_
  refine a_aload_n hb dL_law_713 rfl 0 rfl ?_
  refine a_iload_n hb dL_law_714 rfl 3 rfl ?_
  refine a_iconst (v := 2) hb dL_law_715 (by decide) ?_
  refine a_iadd hb dL_law_716 ?_
  refine b_lds (j := 5 * t + 2) hb hx dL_law_717 (IX.add (IX.n (by omega)) ⟨by decide, by decide⟩ (by omega)) (by omega) ?_
  refine a_aload_n hb dL_law_718 rfl 0 rfl ?_
  refine a_iload_n hb dL_law_719 rfl 3 rfl ?_
  refine a_iconst (v := 3) hb dL_law_720 (by decide) ?_
  refine a_iadd hb dL_law_721 ?_
  refine b_lds (j := 5 * t + 3) hb hx dL_law_722 (IX.add (IX.n (by omega)) ⟨by decide, by decide⟩ (by omega)) (by omega) ?_
  refine a_callV hb dL_law_723 am2 (by rw [ow]; exact clv_RL_89) (l1.1 51 (by decide)) (by decide) rfl rfl rfl (Nat.le_of_ble_eq_true rfl) (by rw [hr]; exact ⟨show dm + 1 ≤ 2048 from by omega, show 8 + (13 + 11) + 64 * dm ≤ 84000 from by omega⟩) (by rw [hr]; exact ⟨show cs + mc + 0 ≤ 600000 from by omega, show ss + ms + 0 ≤ 7302250 from by omega⟩) ?_
  intro rv h2 hq_
  obtain ⟨hv_, hi_⟩ := hq_
  subst hv_
  show AW V (cs + mc) (ss + ms) h2 726 [(0, .ref b), (1, .ref B), (2, .ref (B + 51)), (3, .int (nI (5 * t)))] [.int v, .int v]
  refine a_icmp_eq hb 1131 dL_law_726 (by decide) (fun c => ?_) (fun c => absurd rfl c)
  exact AW.wide (by omega) (by omega) (K h2 hi_)
theorem lw_c17 {V : VV} {b B Ln t cs ss : Nat} {xs : Nat → Int32} {h : AH} (hb : V.2.1.2.1 = code) (ow : V.2.1.1.cls = RL) (hr : V.2.2.1 = room_1) (hx : gX V.1 = (b, Ln, xs)) (ht : 5 * t + 5 ≤ Ln) (hl : Ln ≤ 320) (hc : cs ≤ 1000 ∧ ss ≤ 100000) (H : INV h B) (K : ∀ h', INV h' B → AW V (cs + 6) (ss + 271) h' 1131 [(0, .ref b), (1, .ref B), (2, .ref (B + 51)), (3, .int (nI (5 * t)))] []) : AW V cs ss h 731 [(0, .ref b), (1, .ref B), (2, .ref (B + 51)), (3, .int (nI (5 * t)))] [] := by
  obtain ⟨v, K_, dx, mc, ms, dm, ⟨q1, q2, q3, q4⟩, mx, mm⟩ := s_sure V.1 h B H (xs (5 * t + 1)) (xs (5 * t + 2))
  refine a_aload_n hb dL_law_731 rfl 1 rfl ?_
  refine a_aload_n hb dL_law_732 rfl 0 rfl ?_
  refine a_iload_n hb dL_law_733 rfl 3 rfl ?_
  refine a_iconst (v := 1) hb dL_law_734 (by decide) ?_
  refine a_iadd hb dL_law_735 ?_
  refine b_lds (j := 5 * t + 1) hb hx dL_law_736 (IX.add (IX.n (by omega)) ⟨by decide, by decide⟩ (by omega)) (by omega) ?_
  refine a_aload_n hb dL_law_737 rfl 0 rfl ?_
  refine a_iload_n hb dL_law_738 rfl 3 rfl ?_
  refine a_iconst (v := 2) hb dL_law_739 (by decide) ?_
  refine a_iadd hb dL_law_740 ?_
  refine b_lds (j := 5 * t + 2) hb hx dL_law_741 (IX.add (IX.n (by omega)) ⟨by decide, by decide⟩ (by omega)) (by omega) ?_
  refine a_callV hb dL_law_742 mx (by rw [ow]; exact clv_RL_90) (H.1.1 0 (by decide)) (by decide) rfl rfl rfl (Nat.le_of_ble_eq_true rfl) (by rw [hr]; exact ⟨show dx + 1 ≤ 2048 from by omega, show 8 + (10 + 11) + 64 * dx ≤ 84000 from by omega⟩) (by rw [hr]; exact ⟨show cs + mc ≤ 600000 from by omega, show ss + ms ≤ 7302250 from by omega⟩) ?_
  intro rv h1 hq_
  obtain ⟨hv_, hk_⟩ := hq_
  subst hv_
  obtain ⟨l1, am2⟩ := mm h1 hk_
  show AW V (cs + mc) (ss + ms) h1 745 [(0, .ref b), (1, .ref B), (2, .ref (B + 51)), (3, .int (nI (5 * t)))] [.long v]
  refine a_aload_n hb dL_law_745 rfl 2 rfl ?_
  refine a_aload_n hb dL_law_746 rfl 0 rfl ?_
  refine a_iload_n hb dL_law_747 rfl 3 rfl ?_
  refine a_iconst (v := 1) hb dL_law_748 (by decide) ?_
  refine a_iadd hb dL_law_749 ?_
  refine b_lds (j := 5 * t + 1) hb hx dL_law_750 (IX.add (IX.n (by omega)) ⟨by decide, by decide⟩ (by omega)) (by omega) ?_
  refine a_aload_n hb dL_law_751 rfl 0 rfl ?_
  refine a_iload_n hb dL_law_752 rfl 3 rfl ?_
  refine a_iconst (v := 2) hb dL_law_753 (by decide) ?_
  refine a_iadd hb dL_law_754 ?_
  refine b_lds (j := 5 * t + 2) hb hx dL_law_755 (IX.add (IX.n (by omega)) ⟨by decide, by decide⟩ (by omega)) (by omega) ?_
  refine a_callV hb dL_law_756 am2 (by rw [ow]; exact clv_RL_94) (l1.1 51 (by decide)) (by decide) rfl rfl rfl (Nat.le_of_ble_eq_true rfl) (by rw [hr]; exact ⟨show dm + 1 ≤ 2048 from by omega, show 8 + (3 + 11) + 64 * dm ≤ 84000 from by omega⟩) (by rw [hr]; exact ⟨show cs + mc + 0 ≤ 600000 from by omega, show ss + ms + 0 ≤ 7302250 from by omega⟩) ?_
  intro rv h2 hq_
  obtain ⟨hv_, hi_⟩ := hq_
  subst hv_
  show AW V (cs + mc) (ss + ms) h2 759 [(0, .ref b), (1, .ref B), (2, .ref (B + 51)), (3, .int (nI (5 * t)))] [.long v, .long v]
  refine a_lcmp hb dL_law_759 ?_
  refine a_if_eq hb 1131 dL_law_760 (by decide) (fun c => ?_) (fun c => absurd (lc_eq.mpr rfl) c)
  exact AW.wide (by omega) (by omega) (K h2 hi_)
theorem lw_c18 {V : VV} {b B Ln t cs ss : Nat} {xs : Nat → Int32} {h : AH} (hb : V.2.1.2.1 = code) (ow : V.2.1.1.cls = RL) (hr : V.2.2.1 = room_1) (hx : gX V.1 = (b, Ln, xs)) (ht : 5 * t + 5 ≤ Ln) (hl : Ln ≤ 320) (hc : cs ≤ 1000 ∧ ss ≤ 100000) (H : INV h B) (K : ∀ h', INV h' B → AW V (cs + 6) (ss + 271) h' 1131 [(0, .ref b), (1, .ref B), (2, .ref (B + 51)), (3, .int (nI (5 * t)))] []) : AW V cs ss h 765 [(0, .ref b), (1, .ref B), (2, .ref (B + 51)), (3, .int (nI (5 * t)))] [] := by
  obtain ⟨v, K_, dx, mc, ms, dm, ⟨q1, q2, q3, q4⟩, mx, mm⟩ := s_worst V.1 h B H (xs (5 * t + 1)) (xs (5 * t + 2))
  refine a_aload_n hb dL_law_765 rfl 1 rfl ?_
  refine a_aload_n hb dL_law_766 rfl 0 rfl ?_
  refine a_iload_n hb dL_law_767 rfl 3 rfl ?_
  refine a_iconst (v := 1) hb dL_law_768 (by decide) ?_
  refine a_iadd hb dL_law_769 ?_
  refine b_lds (j := 5 * t + 1) hb hx dL_law_770 (IX.add (IX.n (by omega)) ⟨by decide, by decide⟩ (by omega)) (by omega) ?_
  refine a_aload_n hb dL_law_771 rfl 0 rfl ?_
  refine a_iload_n hb dL_law_772 rfl 3 rfl ?_
  refine a_iconst (v := 2) hb dL_law_773 (by decide) ?_
  refine a_iadd hb dL_law_774 ?_
  refine b_lds (j := 5 * t + 2) hb hx dL_law_775 (IX.add (IX.n (by omega)) ⟨by decide, by decide⟩ (by omega)) (by omega) ?_
  refine a_callV hb dL_law_776 mx (by rw [ow]; exact clv_RL_95) (H.1.1 0 (by decide)) (by decide) rfl rfl rfl (Nat.le_of_ble_eq_true rfl) (by rw [hr]; exact ⟨show dx + 1 ≤ 2048 from by omega, show 8 + (8 + 11) + 64 * dx ≤ 84000 from by omega⟩) (by rw [hr]; exact ⟨show cs + mc ≤ 600000 from by omega, show ss + ms ≤ 7302250 from by omega⟩) ?_
  intro rv h1 hq_
  obtain ⟨hv_, hk_⟩ := hq_
  subst hv_
  obtain ⟨l1, am2⟩ := mm h1 hk_
  show AW V (cs + mc) (ss + ms) h1 779 [(0, .ref b), (1, .ref B), (2, .ref (B + 51)), (3, .int (nI (5 * t)))] [.int v]
  refine a_aload_n hb dL_law_779 rfl 2 rfl ?_
  refine a_aload_n hb dL_law_780 rfl 0 rfl ?_
  refine a_iload_n hb dL_law_781 rfl 3 rfl ?_
  refine a_iconst (v := 1) hb dL_law_782 (by decide) ?_
  refine a_iadd hb dL_law_783 ?_
  refine b_lds (j := 5 * t + 1) hb hx dL_law_784 (IX.add (IX.n (by omega)) ⟨by decide, by decide⟩ (by omega)) (by omega) ?_
  refine a_aload_n hb dL_law_785 rfl 0 rfl ?_
  refine a_iload_n hb dL_law_786 rfl 3 rfl ?_
  refine a_iconst (v := 2) hb dL_law_787 (by decide) ?_
  refine a_iadd hb dL_law_788 ?_
  refine b_lds (j := 5 * t + 2) hb hx dL_law_789 (IX.add (IX.n (by omega)) ⟨by decide, by decide⟩ (by omega)) (by omega) ?_
  refine a_callV hb dL_law_790 am2 (by rw [ow]; exact clv_RL_98) (l1.1 51 (by decide)) (by decide) rfl rfl rfl (Nat.le_of_ble_eq_true rfl) (by rw [hr]; exact ⟨show dm + 1 ≤ 2048 from by omega, show 8 + (3 + 11) + 64 * dm ≤ 84000 from by omega⟩) (by rw [hr]; exact ⟨show cs + mc + 0 ≤ 600000 from by omega, show ss + ms + 0 ≤ 7302250 from by omega⟩) ?_
  intro rv h2 hq_
  obtain ⟨hv_, hi_⟩ := hq_
  subst hv_
  show AW V (cs + mc) (ss + ms) h2 793 [(0, .ref b), (1, .ref B), (2, .ref (B + 51)), (3, .int (nI (5 * t)))] [.int v, .int v]
  refine a_icmp_eq hb 1131 dL_law_793 (by decide) (fun c => ?_) (fun c => absurd rfl c)
  exact AW.wide (by omega) (by omega) (K h2 hi_)
theorem lw_c19 {V : VV} {b B Ln t cs ss : Nat} {xs : Nat → Int32} {h : AH} (hb : V.2.1.2.1 = code) (ow : V.2.1.1.cls = RL) (hr : V.2.2.1 = room_1) (hx : gX V.1 = (b, Ln, xs)) (ht : 5 * t + 5 ≤ Ln) (hl : Ln ≤ 320) (hc : cs ≤ 1000 ∧ ss ≤ 100000) (H : INV h B) (K : ∀ h', INV h' B → AW V (cs + 6) (ss + 271) h' 1131 [(0, .ref b), (1, .ref B), (2, .ref (B + 51)), (3, .int (nI (5 * t)))] []) : AW V cs ss h 798 [(0, .ref b), (1, .ref B), (2, .ref (B + 51)), (3, .int (nI (5 * t)))] [] := by
  obtain ⟨v, K_, dx, mc, ms, dm, ⟨q1, q2, q3, q4⟩, mx, mm⟩ := s_beside V.1 h B H (xs (5 * t + 1)) (xs (5 * t + 2)) (xs (5 * t + 3)) (xs (5 * t + 4))
  refine a_aload_n hb dL_law_798 rfl 1 rfl ?_
  refine a_aload_n hb dL_law_799 rfl 0 rfl ?_
  refine a_iload_n hb dL_law_800 rfl 3 rfl ?_
  refine a_iconst (v := 1) hb dL_law_801 (by decide) ?_
  refine a_iadd hb dL_law_802 ?_
  refine b_lds (j := 5 * t + 1) hb hx dL_law_803 (IX.add (IX.n (by omega)) ⟨by decide, by decide⟩ (by omega)) (by omega) ?_
  refine a_aload_n hb dL_law_804 rfl 0 rfl ?_
  refine a_iload_n hb dL_law_805 rfl 3 rfl ?_
  refine a_iconst (v := 2) hb dL_law_806 (by decide) ?_
  refine a_iadd hb dL_law_807 ?_
  refine b_lds (j := 5 * t + 2) hb hx dL_law_808 (IX.add (IX.n (by omega)) ⟨by decide, by decide⟩ (by omega)) (by omega) ?_
  refine a_aload_n hb dL_law_809 rfl 0 rfl ?_
  refine a_iload_n hb dL_law_810 rfl 3 rfl ?_
  refine a_iconst (v := 3) hb dL_law_811 (by decide) ?_
  refine a_iadd hb dL_law_812 ?_
  refine b_lds (j := 5 * t + 3) hb hx dL_law_813 (IX.add (IX.n (by omega)) ⟨by decide, by decide⟩ (by omega)) (by omega) ?_
  refine a_aload_n hb dL_law_814 rfl 0 rfl ?_
  refine a_iload_n hb dL_law_815 rfl 3 rfl ?_
  refine a_iconst (v := 4) hb dL_law_816 (by decide) ?_
  refine a_iadd hb dL_law_817 ?_
  refine b_lds (j := 5 * t + 4) hb hx dL_law_818 (IX.add (IX.n (by omega)) ⟨by decide, by decide⟩ (by omega)) (by omega) ?_
  refine a_callV hb dL_law_819 mx (by rw [ow]; exact clv_RL_99) (H.1.1 0 (by decide)) (by decide) rfl rfl rfl (Nat.le_of_ble_eq_true rfl) (by rw [hr]; exact ⟨show dx + 1 ≤ 2048 from by omega, show 8 + (5 + 11) + 64 * dx ≤ 84000 from by omega⟩) (by rw [hr]; exact ⟨show cs + mc ≤ 600000 from by omega, show ss + ms ≤ 7302250 from by omega⟩) ?_
  intro rv h1 hq_
  obtain ⟨hv_, hk_⟩ := hq_
  subst hv_
  obtain ⟨l1, am2⟩ := mm h1 hk_
  show AW V (cs + mc) (ss + ms) h1 822 [(0, .ref b), (1, .ref B), (2, .ref (B + 51)), (3, .int (nI (5 * t)))] [.int v]
  refine a_aload_n hb dL_law_822 rfl 2 rfl ?_
  refine a_aload_n hb dL_law_823 rfl 0 rfl ?_
  refine a_iload_n hb dL_law_824 rfl 3 rfl ?_
  refine a_iconst (v := 1) hb dL_law_825 (by decide) ?_
  refine a_iadd hb dL_law_826 ?_
  refine b_lds (j := 5 * t + 1) hb hx dL_law_827 (IX.add (IX.n (by omega)) ⟨by decide, by decide⟩ (by omega)) (by omega) ?_
  refine a_aload_n hb dL_law_828 rfl 0 rfl ?_
  refine a_iload_n hb dL_law_829 rfl 3 rfl ?_
  refine a_iconst (v := 2) hb dL_law_830 (by decide) ?_
  refine a_iadd hb dL_law_831 ?_
  refine b_lds (j := 5 * t + 2) hb hx dL_law_832 (IX.add (IX.n (by omega)) ⟨by decide, by decide⟩ (by omega)) (by omega) ?_
  refine a_aload_n hb dL_law_833 rfl 0 rfl ?_
  refine a_iload_n hb dL_law_834 rfl 3 rfl ?_
  refine a_iconst (v := 3) hb dL_law_835 (by decide) ?_
  refine a_iadd hb dL_law_836 ?_
  refine b_lds (j := 5 * t + 3) hb hx dL_law_837 (IX.add (IX.n (by omega)) ⟨by decide, by decide⟩ (by omega)) (by omega) ?_
  refine a_aload_n hb dL_law_838 rfl 0 rfl ?_
  refine a_iload_n hb dL_law_839 rfl 3 rfl ?_
  refine a_iconst (v := 4) hb dL_law_840 (by decide) ?_
  refine a_iadd hb dL_law_841 ?_
  refine b_lds (j := 5 * t + 4) hb hx dL_law_842 (IX.add (IX.n (by omega)) ⟨by decide, by decide⟩ (by omega)) (by omega) ?_
  refine a_callV hb dL_law_843 am2 (by rw [ow]; exact clv_RL_102) (l1.1 51 (by decide)) (by decide) rfl rfl rfl (Nat.le_of_ble_eq_true rfl) (by rw [hr]; exact ⟨show dm + 1 ≤ 2048 from by omega, show 8 + (13 + 11) + 64 * dm ≤ 84000 from by omega⟩) (by rw [hr]; exact ⟨show cs + mc + 0 ≤ 600000 from by omega, show ss + ms + 0 ≤ 7302250 from by omega⟩) ?_
  intro rv h2 hq_
  obtain ⟨hv_, hi_⟩ := hq_
  subst hv_
  show AW V (cs + mc) (ss + ms) h2 846 [(0, .ref b), (1, .ref B), (2, .ref (B + 51)), (3, .int (nI (5 * t)))] [.int v, .int v]
  refine a_icmp_eq hb 1131 dL_law_846 (by decide) (fun c => ?_) (fun c => absurd rfl c)
  exact AW.wide (by omega) (by omega) (K h2 hi_)
theorem lw_c20 {V : VV} {b B Ln t cs ss : Nat} {xs : Nat → Int32} {h : AH} (hb : V.2.1.2.1 = code) (ow : V.2.1.1.cls = RL) (hr : V.2.2.1 = room_1) (hx : gX V.1 = (b, Ln, xs)) (ht : 5 * t + 5 ≤ Ln) (hl : Ln ≤ 320) (hc : cs ≤ 1000 ∧ ss ≤ 100000) (H : INV h B) (K : ∀ h', INV h' B → AW V (cs + 6) (ss + 271) h' 1131 [(0, .ref b), (1, .ref B), (2, .ref (B + 51)), (3, .int (nI (5 * t)))] []) : AW V cs ss h 851 [(0, .ref b), (1, .ref B), (2, .ref (B + 51)), (3, .int (nI (5 * t)))] [] := by
  obtain ⟨v, K_, dx, mc, ms, dm, ⟨q1, q2, q3, q4⟩, mx, mm⟩ := s_pump V.1 h B H (xs (5 * t + 1)) (xs (5 * t + 2))
  refine a_aload_n hb dL_law_851 rfl 1 rfl ?_
  refine a_aload_n hb dL_law_852 rfl 0 rfl ?_
  refine a_iload_n hb dL_law_853 rfl 3 rfl ?_
  refine a_iconst (v := 1) hb dL_law_854 (by decide) ?_
  refine a_iadd hb dL_law_855 ?_
  refine b_lds (j := 5 * t + 1) hb hx dL_law_856 (IX.add (IX.n (by omega)) ⟨by decide, by decide⟩ (by omega)) (by omega) ?_
  refine a_aload_n hb dL_law_857 rfl 0 rfl ?_
  refine a_iload_n hb dL_law_858 rfl 3 rfl ?_
  refine a_iconst (v := 2) hb dL_law_859 (by decide) ?_
  refine a_iadd hb dL_law_860 ?_
  refine b_lds (j := 5 * t + 2) hb hx dL_law_861 (IX.add (IX.n (by omega)) ⟨by decide, by decide⟩ (by omega)) (by omega) ?_
  refine a_callV hb dL_law_862 mx (by rw [ow]; exact clv_RL_103) (H.1.1 0 (by decide)) (by decide) rfl rfl rfl (Nat.le_of_ble_eq_true rfl) (by rw [hr]; exact ⟨show dx + 1 ≤ 2048 from by omega, show 8 + (8 + 11) + 64 * dx ≤ 84000 from by omega⟩) (by rw [hr]; exact ⟨show cs + mc ≤ 600000 from by omega, show ss + ms ≤ 7302250 from by omega⟩) ?_
  intro rv h1 hq_
  obtain ⟨hv_, hk_⟩ := hq_
  subst hv_
  obtain ⟨l1, am2⟩ := mm h1 hk_
  show AW V (cs + mc) (ss + ms) h1 865 [(0, .ref b), (1, .ref B), (2, .ref (B + 51)), (3, .int (nI (5 * t)))] [.int v]
  refine a_aload_n hb dL_law_865 rfl 2 rfl ?_
  refine a_aload_n hb dL_law_866 rfl 0 rfl ?_
  refine a_iload_n hb dL_law_867 rfl 3 rfl ?_
  refine a_iconst (v := 1) hb dL_law_868 (by decide) ?_
  refine a_iadd hb dL_law_869 ?_
  refine b_lds (j := 5 * t + 1) hb hx dL_law_870 (IX.add (IX.n (by omega)) ⟨by decide, by decide⟩ (by omega)) (by omega) ?_
  refine a_aload_n hb dL_law_871 rfl 0 rfl ?_
  refine a_iload_n hb dL_law_872 rfl 3 rfl ?_
  refine a_iconst (v := 2) hb dL_law_873 (by decide) ?_
  refine a_iadd hb dL_law_874 ?_
  refine b_lds (j := 5 * t + 2) hb hx dL_law_875 (IX.add (IX.n (by omega)) ⟨by decide, by decide⟩ (by omega)) (by omega) ?_
  refine a_callV hb dL_law_876 am2 (by rw [ow]; exact clv_RL_106) (l1.1 51 (by decide)) (by decide) rfl rfl rfl (Nat.le_of_ble_eq_true rfl) (by rw [hr]; exact ⟨show dm + 1 ≤ 2048 from by omega, show 8 + (8 + 11) + 64 * dm ≤ 84000 from by omega⟩) (by rw [hr]; exact ⟨show cs + mc + 0 ≤ 600000 from by omega, show ss + ms + 0 ≤ 7302250 from by omega⟩) ?_
  intro rv h2 hq_
  obtain ⟨hv_, hi_⟩ := hq_
  subst hv_
  show AW V (cs + mc) (ss + ms) h2 879 [(0, .ref b), (1, .ref B), (2, .ref (B + 51)), (3, .int (nI (5 * t)))] [.int v, .int v]
  refine a_icmp_eq hb 1131 dL_law_879 (by decide) (fun c => ?_) (fun c => absurd rfl c)
  exact AW.wide (by omega) (by omega) (K h2 hi_)
theorem lw_c21 {V : VV} {b B Ln t cs ss : Nat} {xs : Nat → Int32} {h : AH} (hb : V.2.1.2.1 = code) (ow : V.2.1.1.cls = RL) (hr : V.2.2.1 = room_1) (hx : gX V.1 = (b, Ln, xs)) (ht : 5 * t + 5 ≤ Ln) (hl : Ln ≤ 320) (hc : cs ≤ 1000 ∧ ss ≤ 100000) (H : INV h B) (K : ∀ h', INV h' B → AW V (cs + 6) (ss + 271) h' 1131 [(0, .ref b), (1, .ref B), (2, .ref (B + 51)), (3, .int (nI (5 * t)))] []) : AW V cs ss h 884 [(0, .ref b), (1, .ref B), (2, .ref (B + 51)), (3, .int (nI (5 * t)))] [] := by
  obtain ⟨v, K_, dx, mc, ms, dm, ⟨q1, q2, q3, q4⟩, mx, mm⟩ := s_row V.1 h B H (xs (5 * t + 1))
  refine a_aload_n hb dL_law_884 rfl 1 rfl ?_
  refine a_aload_n hb dL_law_885 rfl 0 rfl ?_
  refine a_iload_n hb dL_law_886 rfl 3 rfl ?_
  refine a_iconst (v := 1) hb dL_law_887 (by decide) ?_
  refine a_iadd hb dL_law_888 ?_
  refine b_lds (j := 5 * t + 1) hb hx dL_law_889 (IX.add (IX.n (by omega)) ⟨by decide, by decide⟩ (by omega)) (by omega) ?_
  refine a_callV hb dL_law_890 mx (by rw [ow]; exact clv_RL_107) (H.1.1 0 (by decide)) (by decide) rfl rfl rfl (Nat.le_of_ble_eq_true rfl) (by rw [hr]; exact ⟨show dx + 1 ≤ 2048 from by omega, show 8 + (2 + 11) + 64 * dx ≤ 84000 from by omega⟩) (by rw [hr]; exact ⟨show cs + mc ≤ 600000 from by omega, show ss + ms ≤ 7302250 from by omega⟩) ?_
  intro rv h1 hq_
  obtain ⟨hv_, hk_⟩ := hq_
  subst hv_
  obtain ⟨l1, am2⟩ := mm h1 hk_
  show AW V (cs + mc) (ss + ms) h1 893 [(0, .ref b), (1, .ref B), (2, .ref (B + 51)), (3, .int (nI (5 * t)))] [.int v]
  refine a_aload_n hb dL_law_893 rfl 2 rfl ?_
  refine a_aload_n hb dL_law_894 rfl 0 rfl ?_
  refine a_iload_n hb dL_law_895 rfl 3 rfl ?_
  refine a_iconst (v := 1) hb dL_law_896 (by decide) ?_
  refine a_iadd hb dL_law_897 ?_
  refine b_lds (j := 5 * t + 1) hb hx dL_law_898 (IX.add (IX.n (by omega)) ⟨by decide, by decide⟩ (by omega)) (by omega) ?_
  refine a_callV hb dL_law_899 am2 (by rw [ow]; exact clv_RL_110) (l1.1 51 (by decide)) (by decide) rfl rfl rfl (Nat.le_of_ble_eq_true rfl) (by rw [hr]; exact ⟨show dm + 1 ≤ 2048 from by omega, show 8 + (2 + 11) + 64 * dm ≤ 84000 from by omega⟩) (by rw [hr]; exact ⟨show cs + mc + 0 ≤ 600000 from by omega, show ss + ms + 0 ≤ 7302250 from by omega⟩) ?_
  intro rv h2 hq_
  obtain ⟨hv_, hi_⟩ := hq_
  subst hv_
  show AW V (cs + mc) (ss + ms) h2 902 [(0, .ref b), (1, .ref B), (2, .ref (B + 51)), (3, .int (nI (5 * t)))] [.int v, .int v]
  refine a_icmp_eq hb 1131 dL_law_902 (by decide) (fun c => ?_) (fun c => absurd rfl c)
  exact AW.wide (by omega) (by omega) (K h2 hi_)
theorem lw_c22 {V : VV} {b B Ln t cs ss : Nat} {xs : Nat → Int32} {h : AH} (hb : V.2.1.2.1 = code) (ow : V.2.1.1.cls = RL) (hr : V.2.2.1 = room_1) (hx : gX V.1 = (b, Ln, xs)) (ht : 5 * t + 5 ≤ Ln) (hl : Ln ≤ 320) (hc : cs ≤ 1000 ∧ ss ≤ 100000) (H : INV h B) (K : ∀ h', INV h' B → AW V (cs + 6) (ss + 271) h' 1131 [(0, .ref b), (1, .ref B), (2, .ref (B + 51)), (3, .int (nI (5 * t)))] []) : AW V cs ss h 907 [(0, .ref b), (1, .ref B), (2, .ref (B + 51)), (3, .int (nI (5 * t)))] [] := by
  obtain ⟨v, K_, dx, mc, ms, dm, ⟨q1, q2, q3, q4⟩, mx, mm⟩ := s_watched V.1 h B H (xs (5 * t + 1)) (xs (5 * t + 2))
  refine a_aload_n hb dL_law_907 rfl 1 rfl ?_
  refine a_aload_n hb dL_law_908 rfl 0 rfl ?_
  refine a_iload_n hb dL_law_909 rfl 3 rfl ?_
  refine a_iconst (v := 1) hb dL_law_910 (by decide) ?_
  refine a_iadd hb dL_law_911 ?_
  refine b_lds (j := 5 * t + 1) hb hx dL_law_912 (IX.add (IX.n (by omega)) ⟨by decide, by decide⟩ (by omega)) (by omega) ?_
  refine a_aload_n hb dL_law_913 rfl 0 rfl ?_
  refine a_iload_n hb dL_law_914 rfl 3 rfl ?_
  refine a_iconst (v := 2) hb dL_law_915 (by decide) ?_
  refine a_iadd hb dL_law_916 ?_
  refine b_lds (j := 5 * t + 2) hb hx dL_law_917 (IX.add (IX.n (by omega)) ⟨by decide, by decide⟩ (by omega)) (by omega) ?_
  refine a_callV hb dL_law_918 mx (by rw [ow]; exact clv_RL_111) (H.1.1 0 (by decide)) (by decide) rfl rfl rfl (Nat.le_of_ble_eq_true rfl) (by rw [hr]; exact ⟨show dx + 1 ≤ 2048 from by omega, show 8 + (7 + 11) + 64 * dx ≤ 84000 from by omega⟩) (by rw [hr]; exact ⟨show cs + mc ≤ 600000 from by omega, show ss + ms ≤ 7302250 from by omega⟩) ?_
  intro rv h1 hq_
  obtain ⟨hv_, hk_⟩ := hq_
  subst hv_
  obtain ⟨l1, am2⟩ := mm h1 hk_
  show AW V (cs + mc) (ss + ms) h1 921 [(0, .ref b), (1, .ref B), (2, .ref (B + 51)), (3, .int (nI (5 * t)))] [.int v]
  refine a_aload_n hb dL_law_921 rfl 2 rfl ?_
  refine a_aload_n hb dL_law_922 rfl 0 rfl ?_
  refine a_iload_n hb dL_law_923 rfl 3 rfl ?_
  refine a_iconst (v := 1) hb dL_law_924 (by decide) ?_
  refine a_iadd hb dL_law_925 ?_
  refine b_lds (j := 5 * t + 1) hb hx dL_law_926 (IX.add (IX.n (by omega)) ⟨by decide, by decide⟩ (by omega)) (by omega) ?_
  refine a_aload_n hb dL_law_927 rfl 0 rfl ?_
  refine a_iload_n hb dL_law_928 rfl 3 rfl ?_
  refine a_iconst (v := 2) hb dL_law_929 (by decide) ?_
  refine a_iadd hb dL_law_930 ?_
  refine b_lds (j := 5 * t + 2) hb hx dL_law_931 (IX.add (IX.n (by omega)) ⟨by decide, by decide⟩ (by omega)) (by omega) ?_
  refine a_callV hb dL_law_932 am2 (by rw [ow]; exact clv_RL_114) (l1.1 51 (by decide)) (by decide) rfl rfl rfl (Nat.le_of_ble_eq_true rfl) (by rw [hr]; exact ⟨show dm + 1 ≤ 2048 from by omega, show 8 + (8 + 11) + 64 * dm ≤ 84000 from by omega⟩) (by rw [hr]; exact ⟨show cs + mc + 0 ≤ 600000 from by omega, show ss + ms + 0 ≤ 7302250 from by omega⟩) ?_
  intro rv h2 hq_
  obtain ⟨hv_, hi_⟩ := hq_
  subst hv_
  show AW V (cs + mc) (ss + ms) h2 935 [(0, .ref b), (1, .ref B), (2, .ref (B + 51)), (3, .int (nI (5 * t)))] [.int v, .int v]
  refine a_icmp_eq hb 1131 dL_law_935 (by decide) (fun c => ?_) (fun c => absurd rfl c)
  exact AW.wide (by omega) (by omega) (K h2 hi_)
theorem lw_c23 {V : VV} {b B Ln t cs ss : Nat} {xs : Nat → Int32} {h : AH} (hb : V.2.1.2.1 = code) (ow : V.2.1.1.cls = RL) (hr : V.2.2.1 = room_1) (hx : gX V.1 = (b, Ln, xs)) (ht : 5 * t + 5 ≤ Ln) (hl : Ln ≤ 320) (hc : cs ≤ 1000 ∧ ss ≤ 100000) (H : INV h B) (K : ∀ h', INV h' B → AW V (cs + 6) (ss + 271) h' 1131 [(0, .ref b), (1, .ref B), (2, .ref (B + 51)), (3, .int (nI (5 * t)))] []) : AW V cs ss h 940 [(0, .ref b), (1, .ref B), (2, .ref (B + 51)), (3, .int (nI (5 * t)))] [] := by
  obtain ⟨v, K_, dx, mc, ms, dm, ⟨q1, q2, q3, q4⟩, mx, mm⟩ := s_waits V.1 h B H (xs (5 * t + 1)) (xs (5 * t + 2)) (xs (5 * t + 3))
  refine a_aload_n hb dL_law_940 rfl 1 rfl ?_
  refine a_aload_n hb dL_law_941 rfl 0 rfl ?_
  refine a_iload_n hb dL_law_942 rfl 3 rfl ?_
  refine a_iconst (v := 1) hb dL_law_943 (by decide) ?_
  refine a_iadd hb dL_law_944 ?_
  refine b_lds (j := 5 * t + 1) hb hx dL_law_945 (IX.add (IX.n (by omega)) ⟨by decide, by decide⟩ (by omega)) (by omega) ?_
  refine a_aload_n hb dL_law_946 rfl 0 rfl ?_
  refine a_iload_n hb dL_law_947 rfl 3 rfl ?_
  refine a_iconst (v := 2) hb dL_law_948 (by decide) ?_
  refine a_iadd hb dL_law_949 ?_
  refine b_lds (j := 5 * t + 2) hb hx dL_law_950 (IX.add (IX.n (by omega)) ⟨by decide, by decide⟩ (by omega)) (by omega) ?_
  refine a_aload_n hb dL_law_951 rfl 0 rfl ?_
  refine a_iload_n hb dL_law_952 rfl 3 rfl ?_
  refine a_iconst (v := 3) hb dL_law_953 (by decide) ?_
  refine a_iadd hb dL_law_954 ?_
  refine b_lds (j := 5 * t + 3) hb hx dL_law_955 (IX.add (IX.n (by omega)) ⟨by decide, by decide⟩ (by omega)) (by omega) ?_
  refine a_callV hb dL_law_956 mx (by rw [ow]; exact clv_RL_115) (H.1.1 0 (by decide)) (by decide) rfl rfl rfl (Nat.le_of_ble_eq_true rfl) (by rw [hr]; exact ⟨show dx + 1 ≤ 2048 from by omega, show 8 + (9 + 11) + 64 * dx ≤ 84000 from by omega⟩) (by rw [hr]; exact ⟨show cs + mc ≤ 600000 from by omega, show ss + ms ≤ 7302250 from by omega⟩) ?_
  intro rv h1 hq_
  obtain ⟨hv_, hk_⟩ := hq_
  subst hv_
  obtain ⟨l1, am2⟩ := mm h1 hk_
  show AW V (cs + mc) (ss + ms) h1 959 [(0, .ref b), (1, .ref B), (2, .ref (B + 51)), (3, .int (nI (5 * t)))] [.int v]
  refine a_aload_n hb dL_law_959 rfl 2 rfl ?_
  refine a_aload_n hb dL_law_960 rfl 0 rfl ?_
  refine a_iload_n hb dL_law_961 rfl 3 rfl ?_
  refine a_iconst (v := 1) hb dL_law_962 (by decide) ?_
  refine a_iadd hb dL_law_963 ?_
  refine b_lds (j := 5 * t + 1) hb hx dL_law_964 (IX.add (IX.n (by omega)) ⟨by decide, by decide⟩ (by omega)) (by omega) ?_
  refine a_aload_n hb dL_law_965 rfl 0 rfl ?_
  refine a_iload_n hb dL_law_966 rfl 3 rfl ?_
  refine a_iconst (v := 2) hb dL_law_967 (by decide) ?_
  refine a_iadd hb dL_law_968 ?_
  refine b_lds (j := 5 * t + 2) hb hx dL_law_969 (IX.add (IX.n (by omega)) ⟨by decide, by decide⟩ (by omega)) (by omega) ?_
  refine a_aload_n hb dL_law_970 rfl 0 rfl ?_
  refine a_iload_n hb dL_law_971 rfl 3 rfl ?_
  refine a_iconst (v := 3) hb dL_law_972 (by decide) ?_
  refine a_iadd hb dL_law_973 ?_
  refine b_lds (j := 5 * t + 3) hb hx dL_law_974 (IX.add (IX.n (by omega)) ⟨by decide, by decide⟩ (by omega)) (by omega) ?_
  refine a_callV hb dL_law_975 am2 (by rw [ow]; exact clv_RL_118) (l1.1 51 (by decide)) (by decide) rfl rfl rfl (Nat.le_of_ble_eq_true rfl) (by rw [hr]; exact ⟨show dm + 1 ≤ 2048 from by omega, show 8 + (9 + 11) + 64 * dm ≤ 84000 from by omega⟩) (by rw [hr]; exact ⟨show cs + mc + 0 ≤ 600000 from by omega, show ss + ms + 0 ≤ 7302250 from by omega⟩) ?_
  intro rv h2 hq_
  obtain ⟨hv_, hi_⟩ := hq_
  subst hv_
  show AW V (cs + mc) (ss + ms) h2 978 [(0, .ref b), (1, .ref B), (2, .ref (B + 51)), (3, .int (nI (5 * t)))] [.int v, .int v]
  refine a_icmp_eq hb 1131 dL_law_978 (by decide) (fun c => ?_) (fun c => absurd rfl c)
  exact AW.wide (by omega) (by omega) (K h2 hi_)
theorem lw_c24 {V : VV} {b B Ln t cs ss : Nat} {xs : Nat → Int32} {h : AH} (hb : V.2.1.2.1 = code) (ow : V.2.1.1.cls = RL) (hr : V.2.2.1 = room_1) (hx : gX V.1 = (b, Ln, xs)) (ht : 5 * t + 5 ≤ Ln) (hl : Ln ≤ 320) (hc : cs ≤ 1000 ∧ ss ≤ 100000) (H : INV h B) (K : ∀ h', INV h' B → AW V (cs + 6) (ss + 271) h' 1131 [(0, .ref b), (1, .ref B), (2, .ref (B + 51)), (3, .int (nI (5 * t)))] []) : AW V cs ss h 983 [(0, .ref b), (1, .ref B), (2, .ref (B + 51)), (3, .int (nI (5 * t)))] [] := by
  obtain ⟨v, K_, dx, mc, ms, dm, ⟨q1, q2, q3, q4⟩, mx, mm⟩ := s_act V.1 h B H (xs (5 * t + 1)) (xs (5 * t + 2)) (xs (5 * t + 3))
  refine a_aload_n hb dL_law_983 rfl 1 rfl ?_
  refine a_aload_n hb dL_law_984 rfl 0 rfl ?_
  refine a_iload_n hb dL_law_985 rfl 3 rfl ?_
  refine a_iconst (v := 1) hb dL_law_986 (by decide) ?_
  refine a_iadd hb dL_law_987 ?_
  refine b_lds (j := 5 * t + 1) hb hx dL_law_988 (IX.add (IX.n (by omega)) ⟨by decide, by decide⟩ (by omega)) (by omega) ?_
  refine a_aload_n hb dL_law_989 rfl 0 rfl ?_
  refine a_iload_n hb dL_law_990 rfl 3 rfl ?_
  refine a_iconst (v := 2) hb dL_law_991 (by decide) ?_
  refine a_iadd hb dL_law_992 ?_
  refine b_lds (j := 5 * t + 2) hb hx dL_law_993 (IX.add (IX.n (by omega)) ⟨by decide, by decide⟩ (by omega)) (by omega) ?_
  refine a_aload_n hb dL_law_994 rfl 0 rfl ?_
  refine a_iload_n hb dL_law_995 rfl 3 rfl ?_
  refine a_iconst (v := 3) hb dL_law_996 (by decide) ?_
  refine a_iadd hb dL_law_997 ?_
  refine b_lds (j := 5 * t + 3) hb hx dL_law_998 (IX.add (IX.n (by omega)) ⟨by decide, by decide⟩ (by omega)) (by omega) ?_
  refine a_callV hb dL_law_999 mx (by rw [ow]; exact clv_RL_119) (H.1.1 0 (by decide)) (by decide) rfl rfl rfl (Nat.le_of_ble_eq_true rfl) (by rw [hr]; exact ⟨show dx + 1 ≤ 2048 from by omega, show 8 + (5 + 11) + 64 * dx ≤ 84000 from by omega⟩) (by rw [hr]; exact ⟨show cs + mc ≤ 600000 from by omega, show ss + ms ≤ 7302250 from by omega⟩) ?_
  intro rv h1 hq_
  obtain ⟨hv_, hk_⟩ := hq_
  subst hv_
  obtain ⟨l1, am2⟩ := mm h1 hk_
  show AW V (cs + mc) (ss + ms) h1 1002 [(0, .ref b), (1, .ref B), (2, .ref (B + 51)), (3, .int (nI (5 * t)))] [.int v]
  refine a_aload_n hb dL_law_1002 rfl 2 rfl ?_
  refine a_aload_n hb dL_law_1003 rfl 0 rfl ?_
  refine a_iload_n hb dL_law_1004 rfl 3 rfl ?_
  refine a_iconst (v := 1) hb dL_law_1005 (by decide) ?_
  refine a_iadd hb dL_law_1006 ?_
  refine b_lds (j := 5 * t + 1) hb hx dL_law_1007 (IX.add (IX.n (by omega)) ⟨by decide, by decide⟩ (by omega)) (by omega) ?_
  refine a_aload_n hb dL_law_1008 rfl 0 rfl ?_
  refine a_iload_n hb dL_law_1009 rfl 3 rfl ?_
  refine a_iconst (v := 2) hb dL_law_1010 (by decide) ?_
  refine a_iadd hb dL_law_1011 ?_
  refine b_lds (j := 5 * t + 2) hb hx dL_law_1012 (IX.add (IX.n (by omega)) ⟨by decide, by decide⟩ (by omega)) (by omega) ?_
  refine a_aload_n hb dL_law_1013 rfl 0 rfl ?_
  refine a_iload_n hb dL_law_1014 rfl 3 rfl ?_
  refine a_iconst (v := 3) hb dL_law_1015 (by decide) ?_
  refine a_iadd hb dL_law_1016 ?_
  refine b_lds (j := 5 * t + 3) hb hx dL_law_1017 (IX.add (IX.n (by omega)) ⟨by decide, by decide⟩ (by omega)) (by omega) ?_
  refine a_callV hb dL_law_1018 am2 (by rw [ow]; exact clv_RL_122) (l1.1 51 (by decide)) (by decide) rfl rfl rfl (Nat.le_of_ble_eq_true rfl) (by rw [hr]; exact ⟨show dm + 1 ≤ 2048 from by omega, show 8 + (4 + 11) + 64 * dm ≤ 84000 from by omega⟩) (by rw [hr]; exact ⟨show cs + mc + 0 ≤ 600000 from by omega, show ss + ms + 0 ≤ 7302250 from by omega⟩) ?_
  intro rv h2 hq_
  obtain ⟨hv_, hi_⟩ := hq_
  subst hv_
  show AW V (cs + mc) (ss + ms) h2 1021 [(0, .ref b), (1, .ref B), (2, .ref (B + 51)), (3, .int (nI (5 * t)))] [.int v, .int v]
  refine a_icmp_eq hb 1131 dL_law_1021 (by decide) (fun c => ?_) (fun c => absurd rfl c)
  exact AW.wide (by omega) (by omega) (K h2 hi_)
theorem lw_c25 {V : VV} {b B Ln t cs ss : Nat} {xs : Nat → Int32} {h : AH} (hb : V.2.1.2.1 = code) (ow : V.2.1.1.cls = RL) (hr : V.2.2.1 = room_1) (hx : gX V.1 = (b, Ln, xs)) (ht : 5 * t + 5 ≤ Ln) (hl : Ln ≤ 320) (hc : cs ≤ 1000 ∧ ss ≤ 100000) (H : INV h B) (K : ∀ h', INV h' B → AW V (cs + 6) (ss + 271) h' 1131 [(0, .ref b), (1, .ref B), (2, .ref (B + 51)), (3, .int (nI (5 * t)))] []) : AW V cs ss h 1026 [(0, .ref b), (1, .ref B), (2, .ref (B + 51)), (3, .int (nI (5 * t)))] [] := by
  obtain ⟨v, K_, dx, mc, ms, dm, ⟨q1, q2, q3, q4⟩, mx, mm⟩ := s_trace V.1 h B H (xs (5 * t + 1))
  refine a_aload_n hb dL_law_1026 rfl 1 rfl ?_
  refine a_aload_n hb dL_law_1027 rfl 0 rfl ?_
  refine a_iload_n hb dL_law_1028 rfl 3 rfl ?_
  refine a_iconst (v := 1) hb dL_law_1029 (by decide) ?_
  refine a_iadd hb dL_law_1030 ?_
  refine b_lds (j := 5 * t + 1) hb hx dL_law_1031 (IX.add (IX.n (by omega)) ⟨by decide, by decide⟩ (by omega)) (by omega) ?_
  refine a_callV hb dL_law_1032 mx (by rw [ow]; exact clv_RL_123) (H.1.1 0 (by decide)) (by decide) rfl rfl rfl (Nat.le_of_ble_eq_true rfl) (by rw [hr]; exact ⟨show dx + 1 ≤ 2048 from by omega, show 8 + (2 + 11) + 64 * dx ≤ 84000 from by omega⟩) (by rw [hr]; exact ⟨show cs + mc ≤ 600000 from by omega, show ss + ms ≤ 7302250 from by omega⟩) ?_
  intro rv h1 hq_
  obtain ⟨hv_, hk_⟩ := hq_
  subst hv_
  obtain ⟨l1, am2⟩ := mm h1 hk_
  show AW V (cs + mc) (ss + ms) h1 1035 [(0, .ref b), (1, .ref B), (2, .ref (B + 51)), (3, .int (nI (5 * t)))] [.int v]
  refine a_aload_n hb dL_law_1035 rfl 2 rfl ?_
  refine a_aload_n hb dL_law_1036 rfl 0 rfl ?_
  refine a_iload_n hb dL_law_1037 rfl 3 rfl ?_
  refine a_iconst (v := 1) hb dL_law_1038 (by decide) ?_
  refine a_iadd hb dL_law_1039 ?_
  refine b_lds (j := 5 * t + 1) hb hx dL_law_1040 (IX.add (IX.n (by omega)) ⟨by decide, by decide⟩ (by omega)) (by omega) ?_
  refine a_callV hb dL_law_1041 am2 (by rw [ow]; exact clv_RL_126) (l1.1 51 (by decide)) (by decide) rfl rfl rfl (Nat.le_of_ble_eq_true rfl) (by rw [hr]; exact ⟨show dm + 1 ≤ 2048 from by omega, show 8 + (2 + 11) + 64 * dm ≤ 84000 from by omega⟩) (by rw [hr]; exact ⟨show cs + mc + 0 ≤ 600000 from by omega, show ss + ms + 0 ≤ 7302250 from by omega⟩) ?_
  intro rv h2 hq_
  obtain ⟨hv_, hi_⟩ := hq_
  subst hv_
  show AW V (cs + mc) (ss + ms) h2 1044 [(0, .ref b), (1, .ref B), (2, .ref (B + 51)), (3, .int (nI (5 * t)))] [.int v, .int v]
  refine a_icmp_eq hb 1131 dL_law_1044 (by decide) (fun c => ?_) (fun c => absurd rfl c)
  exact AW.wide (by omega) (by omega) (K h2 hi_)
theorem lw_c26 {V : VV} {b B Ln t cs ss : Nat} {xs : Nat → Int32} {h : AH} (hb : V.2.1.2.1 = code) (ow : V.2.1.1.cls = RL) (hr : V.2.2.1 = room_1) (hx : gX V.1 = (b, Ln, xs)) (ht : 5 * t + 5 ≤ Ln) (hl : Ln ≤ 320) (hc : cs ≤ 1000 ∧ ss ≤ 100000) (H : INV h B) (K : ∀ h', INV h' B → AW V (cs + 6) (ss + 271) h' 1131 [(0, .ref b), (1, .ref B), (2, .ref (B + 51)), (3, .int (nI (5 * t)))] []) : AW V cs ss h 1049 [(0, .ref b), (1, .ref B), (2, .ref (B + 51)), (3, .int (nI (5 * t)))] [] := by
  obtain ⟨v, K_, dx, mc, ms, dm, ⟨q1, q2, q3, q4⟩, mx, mm⟩ := s_as V.1 h B H (xs (5 * t + 1)) (xs (5 * t + 2))
  refine a_aload_n hb dL_law_1049 rfl 1 rfl ?_
  refine a_aload_n hb dL_law_1050 rfl 0 rfl ?_
  refine a_iload_n hb dL_law_1051 rfl 3 rfl ?_
  refine a_iconst (v := 1) hb dL_law_1052 (by decide) ?_
  refine a_iadd hb dL_law_1053 ?_
  refine b_lds (j := 5 * t + 1) hb hx dL_law_1054 (IX.add (IX.n (by omega)) ⟨by decide, by decide⟩ (by omega)) (by omega) ?_
  refine a_aload_n hb dL_law_1055 rfl 0 rfl ?_
  refine a_iload_n hb dL_law_1056 rfl 3 rfl ?_
  refine a_iconst (v := 2) hb dL_law_1057 (by decide) ?_
  refine a_iadd hb dL_law_1058 ?_
  refine b_lds (j := 5 * t + 2) hb hx dL_law_1059 (IX.add (IX.n (by omega)) ⟨by decide, by decide⟩ (by omega)) (by omega) ?_
  refine a_callV hb dL_law_1060 mx (by rw [ow]; exact clv_RL_127) (H.1.1 0 (by decide)) (by decide) rfl rfl rfl (Nat.le_of_ble_eq_true rfl) (by rw [hr]; exact ⟨show dx + 1 ≤ 2048 from by omega, show 8 + (4 + 11) + 64 * dx ≤ 84000 from by omega⟩) (by rw [hr]; exact ⟨show cs + mc ≤ 600000 from by omega, show ss + ms ≤ 7302250 from by omega⟩) ?_
  intro rv h1 hq_
  obtain ⟨hv_, hk_⟩ := hq_
  subst hv_
  obtain ⟨l1, am2⟩ := mm h1 hk_
  show AW V (cs + mc) (ss + ms) h1 1063 [(0, .ref b), (1, .ref B), (2, .ref (B + 51)), (3, .int (nI (5 * t)))] [.int v]
  refine a_aload_n hb dL_law_1063 rfl 2 rfl ?_
  refine a_aload_n hb dL_law_1064 rfl 0 rfl ?_
  refine a_iload_n hb dL_law_1065 rfl 3 rfl ?_
  refine a_iconst (v := 1) hb dL_law_1066 (by decide) ?_
  refine a_iadd hb dL_law_1067 ?_
  refine b_lds (j := 5 * t + 1) hb hx dL_law_1068 (IX.add (IX.n (by omega)) ⟨by decide, by decide⟩ (by omega)) (by omega) ?_
  refine a_aload_n hb dL_law_1069 rfl 0 rfl ?_
  refine a_iload_n hb dL_law_1070 rfl 3 rfl ?_
  refine a_iconst (v := 2) hb dL_law_1071 (by decide) ?_
  refine a_iadd hb dL_law_1072 ?_
  refine b_lds (j := 5 * t + 2) hb hx dL_law_1073 (IX.add (IX.n (by omega)) ⟨by decide, by decide⟩ (by omega)) (by omega) ?_
  refine a_callV hb dL_law_1074 am2 (by rw [ow]; exact clv_RL_130) (l1.1 51 (by decide)) (by decide) rfl rfl rfl (Nat.le_of_ble_eq_true rfl) (by rw [hr]; exact ⟨show dm + 1 ≤ 2048 from by omega, show 8 + (3 + 11) + 64 * dm ≤ 84000 from by omega⟩) (by rw [hr]; exact ⟨show cs + mc + 0 ≤ 600000 from by omega, show ss + ms + 0 ≤ 7302250 from by omega⟩) ?_
  intro rv h2 hq_
  obtain ⟨hv_, hi_⟩ := hq_
  subst hv_
  show AW V (cs + mc) (ss + ms) h2 1077 [(0, .ref b), (1, .ref B), (2, .ref (B + 51)), (3, .int (nI (5 * t)))] [.int v, .int v]
  refine a_icmp_eq hb 1131 dL_law_1077 (by decide) (fun c => ?_) (fun c => absurd rfl c)
  exact AW.wide (by omega) (by omega) (K h2 hi_)
theorem lw_c27 {V : VV} {b B Ln t cs ss : Nat} {xs : Nat → Int32} {h : AH} (hb : V.2.1.2.1 = code) (ow : V.2.1.1.cls = RL) (hr : V.2.2.1 = room_1) (hx : gX V.1 = (b, Ln, xs)) (ht : 5 * t + 5 ≤ Ln) (hl : Ln ≤ 320) (hc : cs ≤ 1000 ∧ ss ≤ 100000) (H : INV h B) (K : ∀ h', INV h' B → AW V (cs + 6) (ss + 271) h' 1131 [(0, .ref b), (1, .ref B), (2, .ref (B + 51)), (3, .int (nI (5 * t)))] []) : AW V cs ss h 1082 [(0, .ref b), (1, .ref B), (2, .ref (B + 51)), (3, .int (nI (5 * t)))] [] := by
  obtain ⟨v, K_, dx, mc, ms, dm, ⟨q1, q2, q3, q4⟩, mx, mm⟩ := s_image V.1 h B H 
  refine a_aload_n hb dL_law_1082 rfl 1 rfl ?_
  refine a_callV hb dL_law_1083 mx (by rw [ow]; exact clv_RL_131) (H.1.1 0 (by decide)) (by decide) rfl rfl rfl (Nat.le_of_ble_eq_true rfl) (by rw [hr]; exact ⟨show dx + 1 ≤ 2048 from by omega, show 8 + (1 + 11) + 64 * dx ≤ 84000 from by omega⟩) (by rw [hr]; exact ⟨show cs + mc ≤ 600000 from by omega, show ss + ms ≤ 7302250 from by omega⟩) ?_
  intro rv h1 hq_
  obtain ⟨hv_, hk_⟩ := hq_
  subst hv_
  obtain ⟨l1, am2⟩ := mm h1 hk_
  show AW V (cs + mc) (ss + ms) h1 1086 [(0, .ref b), (1, .ref B), (2, .ref (B + 51)), (3, .int (nI (5 * t)))] [.int v]
  refine a_aload_n hb dL_law_1086 rfl 2 rfl ?_
  refine a_callV hb dL_law_1087 am2 (by rw [ow]; exact clv_RL_134) (l1.1 51 (by decide)) (by decide) rfl rfl rfl (Nat.le_of_ble_eq_true rfl) (by rw [hr]; exact ⟨show dm + 1 ≤ 2048 from by omega, show 8 + (2 + 11) + 64 * dm ≤ 84000 from by omega⟩) (by rw [hr]; exact ⟨show cs + mc + 0 ≤ 600000 from by omega, show ss + ms + 0 ≤ 7302250 from by omega⟩) ?_
  intro rv h2 hq_
  obtain ⟨hv_, hi_⟩ := hq_
  subst hv_
  show AW V (cs + mc) (ss + ms) h2 1090 [(0, .ref b), (1, .ref B), (2, .ref (B + 51)), (3, .int (nI (5 * t)))] [.int v, .int v]
  refine a_icmp_eq hb 1131 dL_law_1090 (by decide) (fun c => ?_) (fun c => absurd rfl c)
  exact AW.wide (by omega) (by omega) (K h2 hi_)
theorem lw_c28 {V : VV} {b B Ln t cs ss : Nat} {xs : Nat → Int32} {h : AH} (hb : V.2.1.2.1 = code) (ow : V.2.1.1.cls = RL) (hr : V.2.2.1 = room_1) (hx : gX V.1 = (b, Ln, xs)) (ht : 5 * t + 5 ≤ Ln) (hl : Ln ≤ 320) (hc : cs ≤ 1000 ∧ ss ≤ 100000) (H : INV h B) (K : ∀ h', INV h' B → AW V (cs + 6) (ss + 271) h' 1131 [(0, .ref b), (1, .ref B), (2, .ref (B + 51)), (3, .int (nI (5 * t)))] []) : AW V cs ss h 1095 [(0, .ref b), (1, .ref B), (2, .ref (B + 51)), (3, .int (nI (5 * t)))] [] := by
  obtain ⟨v, K_, dx, mc, ms, dm, ⟨q1, q2, q3, q4⟩, mx, mm⟩ := s_undo V.1 h B H 
  refine a_aload_n hb dL_law_1095 rfl 1 rfl ?_
  refine a_callV hb dL_law_1096 mx (by rw [ow]; exact clv_RL_135) (H.1.1 0 (by decide)) (by decide) rfl rfl rfl (Nat.le_of_ble_eq_true rfl) (by rw [hr]; exact ⟨show dx + 1 ≤ 2048 from by omega, show 8 + (1 + 11) + 64 * dx ≤ 84000 from by omega⟩) (by rw [hr]; exact ⟨show cs + mc ≤ 600000 from by omega, show ss + ms ≤ 7302250 from by omega⟩) ?_
  intro rv h1 hq_
  obtain ⟨hv_, hk_⟩ := hq_
  subst hv_
  obtain ⟨l1, am2⟩ := mm h1 hk_
  show AW V (cs + mc) (ss + ms) h1 1099 [(0, .ref b), (1, .ref B), (2, .ref (B + 51)), (3, .int (nI (5 * t)))] [.int v]
  refine a_aload_n hb dL_law_1099 rfl 2 rfl ?_
  refine a_callV hb dL_law_1100 am2 (by rw [ow]; exact clv_RL_138) (l1.1 51 (by decide)) (by decide) rfl rfl rfl (Nat.le_of_ble_eq_true rfl) (by rw [hr]; exact ⟨show dm + 1 ≤ 2048 from by omega, show 8 + (2 + 11) + 64 * dm ≤ 84000 from by omega⟩) (by rw [hr]; exact ⟨show cs + mc + 0 ≤ 600000 from by omega, show ss + ms + 0 ≤ 7302250 from by omega⟩) ?_
  intro rv h2 hq_
  obtain ⟨hv_, hi_⟩ := hq_
  subst hv_
  show AW V (cs + mc) (ss + ms) h2 1103 [(0, .ref b), (1, .ref B), (2, .ref (B + 51)), (3, .int (nI (5 * t)))] [.int v, .int v]
  refine a_icmp_eq hb 1131 dL_law_1103 (by decide) (fun c => ?_) (fun c => absurd rfl c)
  exact AW.wide (by omega) (by omega) (K h2 hi_)
theorem lw_c29 {V : VV} {b B Ln t cs ss : Nat} {xs : Nat → Int32} {h : AH} (hb : V.2.1.2.1 = code) (ow : V.2.1.1.cls = RL) (hr : V.2.2.1 = room_1) (hx : gX V.1 = (b, Ln, xs)) (ht : 5 * t + 5 ≤ Ln) (hl : Ln ≤ 320) (hc : cs ≤ 1000 ∧ ss ≤ 100000) (H : INV h B) (K : ∀ h', INV h' B → AW V (cs + 6) (ss + 271) h' 1131 [(0, .ref b), (1, .ref B), (2, .ref (B + 51)), (3, .int (nI (5 * t)))] []) : AW V cs ss h 1108 [(0, .ref b), (1, .ref B), (2, .ref (B + 51)), (3, .int (nI (5 * t)))] [] := by
  obtain ⟨v, K_, dx, mc, ms, dm, ⟨q1, q2, q3, q4⟩, mx, mm⟩ := s_count V.1 h B H (xs (5 * t + 1))
  refine a_aload_n hb dL_law_1108 rfl 1 rfl ?_
  refine a_aload_n hb dL_law_1109 rfl 0 rfl ?_
  refine a_iload_n hb dL_law_1110 rfl 3 rfl ?_
  refine a_iconst (v := 1) hb dL_law_1111 (by decide) ?_
  refine a_iadd hb dL_law_1112 ?_
  refine b_lds (j := 5 * t + 1) hb hx dL_law_1113 (IX.add (IX.n (by omega)) ⟨by decide, by decide⟩ (by omega)) (by omega) ?_
  refine a_callV hb dL_law_1114 mx (by rw [ow]; exact clv_RL_139) (H.1.1 0 (by decide)) (by decide) rfl rfl rfl (Nat.le_of_ble_eq_true rfl) (by rw [hr]; exact ⟨show dx + 1 ≤ 2048 from by omega, show 8 + (2 + 11) + 64 * dx ≤ 84000 from by omega⟩) (by rw [hr]; exact ⟨show cs + mc ≤ 600000 from by omega, show ss + ms ≤ 7302250 from by omega⟩) ?_
  intro rv h1 hq_
  obtain ⟨hv_, hk_⟩ := hq_
  subst hv_
  obtain ⟨l1, am2⟩ := mm h1 hk_
  show AW V (cs + mc) (ss + ms) h1 1117 [(0, .ref b), (1, .ref B), (2, .ref (B + 51)), (3, .int (nI (5 * t)))] [.int v]
  refine a_aload_n hb dL_law_1117 rfl 2 rfl ?_
  refine a_aload_n hb dL_law_1118 rfl 0 rfl ?_
  refine a_iload_n hb dL_law_1119 rfl 3 rfl ?_
  refine a_iconst (v := 1) hb dL_law_1120 (by decide) ?_
  refine a_iadd hb dL_law_1121 ?_
  refine b_lds (j := 5 * t + 1) hb hx dL_law_1122 (IX.add (IX.n (by omega)) ⟨by decide, by decide⟩ (by omega)) (by omega) ?_
  refine a_callV hb dL_law_1123 am2 (by rw [ow]; exact clv_RL_142) (l1.1 51 (by decide)) (by decide) rfl rfl rfl (Nat.le_of_ble_eq_true rfl) (by rw [hr]; exact ⟨show dm + 1 ≤ 2048 from by omega, show 8 + (2 + 11) + 64 * dm ≤ 84000 from by omega⟩) (by rw [hr]; exact ⟨show cs + mc + 0 ≤ 600000 from by omega, show ss + ms + 0 ≤ 7302250 from by omega⟩) ?_
  intro rv h2 hq_
  obtain ⟨hv_, hi_⟩ := hq_
  subst hv_
  show AW V (cs + mc) (ss + ms) h2 1126 [(0, .ref b), (1, .ref B), (2, .ref (B + 51)), (3, .int (nI (5 * t)))] [.int v, .int v]
  refine a_icmp_eq hb 1131 dL_law_1126 (by decide) (fun c => ?_) (fun c => absurd rfl c)
  exact AW.wide (by omega) (by omega) (K h2 hi_)
