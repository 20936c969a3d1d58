def genS (un t : Nat) (u : Nat → ZP) (st : Sta) : Sta := (st.1, st.2.1 - un * st.1, st.2.2.1 + un * st.1, st.2.2.2.1 + 1, st.2.2.2.2.1, va_up st.2.2.2.2.2 t u)
def rowS (t : Nat) (u : Nat → ZP) (st : Sta) : Sta := (st.1, st.2.1, st.2.2.1, st.2.2.2.1, st.2.2.2.2.1, va_up st.2.2.2.2.2 t u)
def cutS (c : Nat) (st : Sta) : Sta := (c, st.2.1, st.2.2.1, st.2.2.2.1, st.2.2.2.2.1, cutR c st.2.2.2.2.2)
def earnS (m : Nat) (st : Sta) : Sta := (st.1, st.2.1 + m, st.2.2.1, st.2.2.2.1, st.2.2.2.2.1, st.2.2.2.2.2)
def shpS (cu : Nat) (r : Rws) (st : Sta) : Sta := (cu, st.2.1, st.2.2.1, st.2.2.2.1, st.2.2.2.2.1, r)
abbrev rm_X5_scale : Room := { frames := 4, cells := 0, slots := 0, locals := 104 }
set_option maxHeartbeats 4000000 in
set_option maxRecDepth 100000 in
theorem c_X5_scale (l : Launch) (G : Gl) (L : List Nat) (F : Nat → va_E) (ad : Nat → Nat) (hL : ∀ i, i < 166 → ad i ∈ L) (hin : ∀ i j, i < 166 → j < 166 → i ≠ j → ad i ≠ ad j) (A : AB) (f9 t9 : Nat) (y9 : Int32) (hf9 : f9 < 6) (ht9 : t9 < 6) (hm : 1 * A.1.1 ≤ A.1.2.1) (hX : XW G F ad A) (hA : okA A) : CI l yX5_scale cX5_scale 4 (some .int) rm_X5_scale G L F [.ref (ad 0), .int (nI (f9)), .int (y9), .int (nI (t9))] (fun r F1 => r = lowR (m_scale (A.1.2.2.2.2.2 f9) (zi y9)) ∧ XW G F1 ad (aSave A (genS 1 t9 (m_scale (A.1.2.2.2.2.2 f9) (zi y9)) A.1)) ∧ ∀ q, (∀ i, (i < 166) → q ≠ ad i) → F1 q = F q) := by
  obtain ⟨fx, hn, hh, hsn, htx, hrk, ⟨u9, h134⟩, ⟨v9, h150⟩⟩ := hX
  obtain ⟨⟨hc2, hc, hpu, hok⟩, ⟨hh6, hho⟩, hso, hl60, hco⟩ := id hA
  refine CG_of (by decide) (Nat.le_of_ble_eq_true rfl) rfl ?_
  intro p e s m args below meth c Q C0 hr hlk hnm hQ hw ls hl
  have hx := C0.x
  have hb := C0.b
  refine lv_iload_n hx hb dX5_scale_0 rfl (lv_at hl 1 rfl) ?_
  refine q_callv hw (q_runS (As := [.int (nI (f9))]) (c_X5_needSlot l G L F f9 (by omega)) C0 hw sw_X5_78 rfl hl.1 rfl (Nat.le_of_ble_eq_true rfl) dX5_scale_1 ⟨by decide, by decide⟩ ⟨by decide, by decide⟩) rfl rfl (fun F_1815 H locs hw hp_1816 => ?_)
  refine lv_iload_n hx hb dX5_scale_4 rfl (lv_at hl 3 rfl) ?_
  refine q_callv hw (q_runS (As := [.int (nI (t9))]) (c_X5_needSlot l G L F_1815 t9 (by omega)) C0 hw sw_X5_78 rfl hl.1 rfl (Nat.le_of_ble_eq_true rfl) dX5_scale_5 ⟨by decide, by decide⟩ ⟨by decide, by decide⟩) rfl rfl (fun F_1817 H locs hw hp_1818 => ?_)
  refine lv_aload_n hx hb dX5_scale_8 rfl (lv_at hl 0 rfl) ?_
  refine lv_iconst (v := nI 1) hx hb dX5_scale_9 (by decide) ?_
  have f_1819 : F_1815 (ad 0) = xO ad := (hp_1816 (ad 0) ).trans fx
  have f_1820 : F_1817 (ad 0) = xO ad := (hp_1818 (ad 0) ).trans f_1819
  refine q_callv hw (q_runV (As := [.int (nI (1))]) (c_X5_needMoney l G L F_1817 ad hL hin 1 A.1 f_1820 (hn.keep (fun i0 hi => ((hp_1818 (ad (i0)) )).trans ((hp_1816 (ad (i0)) )))) (by omega) (by omega)) C0 hw vw_X5_111 ((hL 0 (by omega))) f_1820 rfl rfl rfl hl.1 rfl (Nat.le_of_ble_eq_true rfl) dX5_scale_10 ⟨by decide, by decide⟩ ⟨by decide, by decide⟩) rfl rfl (fun F_1821 H locs hw hp_1822 => ?_)
  refine lv_aload_n hx hb dX5_scale_13 rfl (lv_at hl 0 rfl) ?_
  have f_1823 : F_1821 (ad 0) = xO ad := (hp_1822 (ad 0) ).trans f_1820
  refine q_get C0 hw ((hL 0 (by omega))) f_1823 fw_X5_19 rfl dX5_scale_14 ?_
  refine lv_aload_n hx hb dX5_scale_17 rfl (lv_at hl 0 rfl) ?_
  refine q_get C0 hw ((hL 0 (by omega))) f_1823 fw_X5_12 rfl dX5_scale_18 ?_
  obtain ⟨_, _, hf_1824, _⟩ := id (hh.keep (fun i0 hi => ((hp_1822 (ad (i0)) )).trans (((hp_1818 (ad (i0)) )).trans ((hp_1816 (ad (i0)) )))))
  refine q_callv hw (q_runV (As := [.ref (ad 22)]) (c_X0_save l G L F_1821 ad hL hin A.2.1 A.1 (hh.keep (fun i0 hi => ((hp_1822 (ad (i0)) )).trans (((hp_1818 (ad (i0)) )).trans ((hp_1816 (ad (i0)) ))))) (hn.keep (fun i0 hi => ((hp_1822 (ad (i0)) )).trans (((hp_1818 (ad (i0)) )).trans ((hp_1816 (ad (i0)) )))))) C0 hw vw_X5_62 ((hL 1 (by omega))) hf_1824 rfl rfl rfl hl.1 rfl (Nat.le_of_ble_eq_true rfl) dX5_scale_21 ⟨by decide, by decide⟩ ⟨by decide, by decide⟩) rfl rfl (fun F_1825 H locs hw hp_1826 => ?_)
  refine lv_aload_n hx hb dX5_scale_24 rfl (lv_at hl 0 rfl) ?_
  refine lv_iconst (v := nI 1) hx hb dX5_scale_25 (by decide) ?_
  have f_1827 : F_1825 (ad 0) = xO ad := (hp_1826.2 (ad 0) (fun i hS => hin 0 i (by omega) (by omega) (by omega))).trans f_1823
  refine q_callv hw (q_runV (As := [.int (nI (1))]) (c_X5_pay l G L F_1825 ad hL hin 1 A.1 f_1827 (hn.keep (fun i0 hi => ((hp_1826.2 (ad (i0)) (fun i hS => hin (i0) i (by omega) (by omega) (by omega)))).trans (((hp_1822 (ad (i0)) )).trans (((hp_1818 (ad (i0)) )).trans ((hp_1816 (ad (i0)) )))))) (by omega)) C0 hw vw_X5_114 ((hL 0 (by omega))) f_1827 rfl rfl rfl hl.1 rfl (Nat.le_of_ble_eq_true rfl) dX5_scale_26 ⟨by decide, by decide⟩ ⟨by decide, by decide⟩) rfl rfl (fun F_1828 H locs hw hp_1829 => ?_)
  refine lv_aload_n hx hb dX5_scale_29 rfl (lv_at hl 0 rfl) ?_
  have f_1830 : F_1828 (ad 0) = xO ad := (hp_1829.2 (ad 0) (fun i hS => hin 0 i (by omega) (by omega) (by omega))).trans f_1827
  refine q_get C0 hw ((hL 0 (by omega))) f_1830 fw_X5_12 rfl dX5_scale_30 ?_
  refine q_get C0 hw ((hL 22 (by omega))) hp_1829.1 fw_X5_66 rfl dX5_scale_33 ?_
  have f_1831 : F_1815 (ad 23) = .inr (2, [.int (nI (A.1.1)), .ref (ad 24), .ref (ad 25)]) := (hp_1816 (ad 23) ).trans hn.2.1
  have f_1832 : F_1817 (ad 23) = .inr (2, [.int (nI (A.1.1)), .ref (ad 24), .ref (ad 25)]) := (hp_1818 (ad 23) ).trans f_1831
  have f_1833 : F_1821 (ad 23) = .inr (2, [.int (nI (A.1.1)), .ref (ad 24), .ref (ad 25)]) := (hp_1822 (ad 23) ).trans f_1832
  have f_1834 : F_1825 (ad 23) = .inr (2, [.int (nI (A.1.1)), .ref (ad 24), .ref (ad 25)]) := (hp_1826.2 (ad 23) (fun i hS => hin 23 i (by omega) (by omega) (by omega))).trans f_1833
  have f_1835 : F_1828 (ad 23) = .inr (2, [.int (nI (A.1.1)), .ref (ad 24), .ref (ad 25)]) := (hp_1829.2 (ad 23) (fun i hS => hin 23 i (by omega) (by omega) (by omega))).trans f_1834
  refine q_get C0 hw ((hL 23 (by omega))) f_1835 fw_X5_85 rfl dX5_scale_36 ?_
  refine lv_iload_n hx hb dX5_scale_39 rfl (lv_at hl 1 rfl) ?_
  have f_1836 : F_1815 (ad 24) = oE G (fun i => ad (26 + i)) := (hp_1816 (ad 24) ).trans hn.2.2.1
  have f_1837 : F_1817 (ad 24) = oE G (fun i => ad (26 + i)) := (hp_1818 (ad 24) ).trans f_1836
  have f_1838 : F_1821 (ad 24) = oE G (fun i => ad (26 + i)) := (hp_1822 (ad 24) ).trans f_1837
  have f_1839 : F_1825 (ad 24) = oE G (fun i => ad (26 + i)) := (hp_1826.2 (ad 24) (fun i hS => hin 24 i (by omega) (by omega) (by omega))).trans f_1838
  have f_1840 : F_1828 (ad 24) = oE G (fun i => ad (26 + i)) := (hp_1829.2 (ad 24) (fun i hS => hin 24 i (by omega) (by omega) (by omega))).trans f_1839
  refine q_aaldi C0 hw ((hL 24 (by omega))) f_1840 (f9) (by omega) (by decide) (b := ad (26 + f9)) rfl dX5_scale_40 ?_
  refine lv_iload_n hx hb dX5_scale_41 rfl (lv_at hl 2 rfl) ?_
  refine lv_sipush (v := nI 10007) hx hb dX5_scale_42 (by decide) ?_
  refine q_calli hw (q_runS (As := [.int (y9), .int (nI (10007))]) (c_J9_floorMod_7cf53 l G L F_1828 y9) C0 hw sw_X5_117 rfl hl.1 rfl (Nat.le_of_ble_eq_true rfl) dX5_scale_45 ⟨by decide, by decide⟩ ⟨by decide, by decide⟩) rfl rfl (fun r_1843 F_1841 H locs hw hp_1842 => ?_)
  obtain ⟨he_1844, o_1845⟩ := hp_1842
  subst he_1844
  refine lv_aload_n hx hb dX5_scale_48 rfl (lv_at hl 0 rfl) ?_
  have f_1846 : F_1841 (ad 0) = xO ad := (o_1845 (ad 0) ).trans f_1830
  refine q_get C0 hw ((hL 0 (by omega))) f_1846 fw_X5_48 rfl dX5_scale_49 ?_
  have f_1847 : F_1815 (ad (26 + f9)) = rw7 G ((A.1.2.2.2.2.2 f9)) := (hp_1816 (ad (26 + f9)) ).trans ((hn.2.2.2.2 f9 (by omega)))
  have f_1848 : F_1817 (ad (26 + f9)) = rw7 G ((A.1.2.2.2.2.2 f9)) := (hp_1818 (ad (26 + f9)) ).trans f_1847
  have f_1849 : F_1821 (ad (26 + f9)) = rw7 G ((A.1.2.2.2.2.2 f9)) := (hp_1822 (ad (26 + f9)) ).trans f_1848
  have f_1850 : F_1825 (ad (26 + f9)) = rw7 G ((A.1.2.2.2.2.2 f9)) := (hp_1826.2 (ad (26 + f9)) (fun i hS => hin (26 + f9) i (by omega) (by omega) (by omega))).trans f_1849
  have f_1851 : F_1828 (ad (26 + f9)) = rw7 G ((A.1.2.2.2.2.2 f9)) := (hp_1829.2 (ad (26 + f9)) (fun i hS => hin (26 + f9) i (by omega) (by omega) (by omega))).trans f_1850
  have f_1852 : F_1841 (ad (26 + f9)) = rw7 G ((A.1.2.2.2.2.2 f9)) := (o_1845 (ad (26 + f9)) ).trans f_1851
  have f_1853 : F_1815 (ad 134) = rw7 G u9 := (hp_1816 (ad 134) ).trans h134
  have f_1854 : F_1817 (ad 134) = rw7 G u9 := (hp_1818 (ad 134) ).trans f_1853
  have f_1855 : F_1821 (ad 134) = rw7 G u9 := (hp_1822 (ad 134) ).trans f_1854
  have f_1856 : F_1825 (ad 134) = rw7 G u9 := (hp_1826.2 (ad 134) (fun i hS => hin 134 i (by omega) (by omega) (by omega))).trans f_1855
  have f_1857 : F_1828 (ad 134) = rw7 G u9 := (hp_1829.2 (ad 134) (fun i hS => hin 134 i (by omega) (by omega) (by omega))).trans f_1856
  have f_1858 : F_1841 (ad 134) = rw7 G u9 := (o_1845 (ad 134) ).trans f_1857
  refine q_callv hw (q_runS (As := [.ref (ad (26 + f9)), .int (nI ((zi y9).val)), .ref (ad 134)]) (c_X1_scaleRow l G L F_1841 (ad (26 + f9)) (ad 134) ((A.1.2.2.2.2.2 f9)) u9 (zi y9) ((hL (26 + f9) (by omega))) f_1852 ((hL 134 (by omega))) f_1858 (hin (26 + f9) 134 (by omega) (by omega) (by omega))) C0 hw sw_X5_123 rfl hl.1 rfl (Nat.le_of_ble_eq_true rfl) dX5_scale_52 ⟨by decide, by decide⟩ ⟨by decide, by decide⟩) rfl rfl (fun F_1859 H locs hw hp_1860 => ?_)
  refine lv_aload_n hx hb dX5_scale_55 rfl (lv_at hl 0 rfl) ?_
  refine lv_aload_n hx hb dX5_scale_56 rfl (lv_at hl 0 rfl) ?_
  have f_1861 : F_1859 (ad 0) = xO ad := (hp_1860.2 (ad 0) (hin 0 134 (by omega) (by omega) (by omega))).trans f_1846
  refine q_get C0 hw ((hL 0 (by omega))) f_1861 fw_X5_12 rfl dX5_scale_57 ?_
  have f_1862 : F_1841 (ad 22) = .inr (3, [.ref (ad 23), .int (nI (A.1.2.1 - 1 * A.1.1)), .int (nI (A.1.2.2.1 + 1 * A.1.1)), .int (nI (A.1.2.2.2.1 + 1)), .int (nI (A.1.2.2.2.2.1))]) := (o_1845 (ad 22) ).trans hp_1829.1
  have f_1863 : F_1859 (ad 22) = .inr (3, [.ref (ad 23), .int (nI (A.1.2.1 - 1 * A.1.1)), .int (nI (A.1.2.2.1 + 1 * A.1.1)), .int (nI (A.1.2.2.2.1 + 1)), .int (nI (A.1.2.2.2.2.1))]) := (hp_1860.2 (ad 22) (hin 22 134 (by omega) (by omega) (by omega))).trans f_1862
  refine q_get C0 hw ((hL 22 (by omega))) f_1863 fw_X5_66 rfl dX5_scale_60 ?_
  have f_1864 : F_1841 (ad 23) = .inr (2, [.int (nI (A.1.1)), .ref (ad 24), .ref (ad 25)]) := (o_1845 (ad 23) ).trans f_1835
  have f_1865 : F_1859 (ad 23) = .inr (2, [.int (nI (A.1.1)), .ref (ad 24), .ref (ad 25)]) := (hp_1860.2 (ad 23) (hin 23 134 (by omega) (by omega) (by omega))).trans f_1864
  refine q_get C0 hw ((hL 23 (by omega))) f_1865 fw_X5_85 rfl dX5_scale_63 ?_
  refine lv_iload_n hx hb dX5_scale_66 rfl (lv_at hl 3 rfl) ?_
  have f_1866 : F_1841 (ad 24) = oE G (fun i => ad (26 + i)) := (o_1845 (ad 24) ).trans f_1840
  have f_1867 : F_1859 (ad 24) = oE G (fun i => ad (26 + i)) := (hp_1860.2 (ad 24) (hin 24 134 (by omega) (by omega) (by omega))).trans f_1866
  refine q_aaldi C0 hw ((hL 24 (by omega))) f_1867 (t9) (by omega) (by decide) (b := ad (26 + t9)) rfl dX5_scale_67 ?_
  have f_1868 : F_1815 (ad (26 + t9)) = rw7 G ((A.1.2.2.2.2.2 t9)) := (hp_1816 (ad (26 + t9)) ).trans ((hn.2.2.2.2 t9 (by omega)))
  have f_1869 : F_1817 (ad (26 + t9)) = rw7 G ((A.1.2.2.2.2.2 t9)) := (hp_1818 (ad (26 + t9)) ).trans f_1868
  have f_1870 : F_1821 (ad (26 + t9)) = rw7 G ((A.1.2.2.2.2.2 t9)) := (hp_1822 (ad (26 + t9)) ).trans f_1869
  have f_1871 : F_1825 (ad (26 + t9)) = rw7 G ((A.1.2.2.2.2.2 t9)) := (hp_1826.2 (ad (26 + t9)) (fun i hS => hin (26 + t9) i (by omega) (by omega) (by omega))).trans f_1870
  have f_1872 : F_1828 (ad (26 + t9)) = rw7 G ((A.1.2.2.2.2.2 t9)) := (hp_1829.2 (ad (26 + t9)) (fun i hS => hin (26 + t9) i (by omega) (by omega) (by omega))).trans f_1871
  have f_1873 : F_1841 (ad (26 + t9)) = rw7 G ((A.1.2.2.2.2.2 t9)) := (o_1845 (ad (26 + t9)) ).trans f_1872
  have f_1874 : F_1859 (ad (26 + t9)) = rw7 G ((A.1.2.2.2.2.2 t9)) := (hp_1860.2 (ad (26 + t9)) (hin (26 + t9) 134 (by omega) (by omega) (by omega))).trans f_1873
  refine q_calli hw (q_runV (As := [.ref (ad (26 + t9))]) (c_X5_put l G L F_1859 ad hL hin t9 ((m_scale ((A.1.2.2.2.2.2 f9)) (zi y9))) ((A.1.2.2.2.2.2 t9)) f_1861 hp_1860.1 f_1874 (by omega)) C0 hw vw_X5_127 ((hL 0 (by omega))) f_1861 rfl rfl rfl hl.1 rfl (Nat.le_of_ble_eq_true rfl) dX5_scale_68 ⟨by decide, by decide⟩ ⟨by decide, by decide⟩) rfl rfl (fun r_1877 F_1875 H locs hw hp_1876 => ?_)
  obtain ⟨he_1878, f_1879, o_1880⟩ := hp_1876
  subst he_1878
  have f_1881 : F_1875 (ad 22) = .inr (3, [.ref (ad 23), .int (nI (A.1.2.1 - 1 * A.1.1)), .int (nI (A.1.2.2.1 + 1 * A.1.1)), .int (nI (A.1.2.2.2.1 + 1)), .int (nI (A.1.2.2.2.2.1))]) := (o_1880 (ad 22) (fun i hS => hin 22 i (by omega) (by omega) (by omega))).trans f_1863
  have f_1882 : F_1875 (ad 0) = xO ad := (o_1880 (ad 0) (fun i hS => hin 0 i (by omega) (by omega) (by omega))).trans f_1861
  have f_1883 : F_1875 (ad 134) = rw7 G ((m_scale ((A.1.2.2.2.2.2 f9)) (zi y9))) := (o_1880 (ad 134) (fun i hS => hin 134 i (by omega) (by omega) (by omega))).trans hp_1860.1
  have f_1884 : F_1815 (ad 150) = rw7 G v9 := (hp_1816 (ad 150) ).trans h150
  have f_1885 : F_1817 (ad 150) = rw7 G v9 := (hp_1818 (ad 150) ).trans f_1884
  have f_1886 : F_1821 (ad 150) = rw7 G v9 := (hp_1822 (ad 150) ).trans f_1885
  have f_1887 : F_1825 (ad 150) = rw7 G v9 := (hp_1826.2 (ad 150) (fun i hS => hin 150 i (by omega) (by omega) (by omega))).trans f_1886
  have f_1888 : F_1828 (ad 150) = rw7 G v9 := (hp_1829.2 (ad 150) (fun i hS => hin 150 i (by omega) (by omega) (by omega))).trans f_1887
  have f_1889 : F_1841 (ad 150) = rw7 G v9 := (o_1845 (ad 150) ).trans f_1888
  have f_1890 : F_1859 (ad 150) = rw7 G v9 := (hp_1860.2 (ad 150) (hin 150 134 (by omega) (by omega) (by omega))).trans f_1889
  have f_1891 : F_1875 (ad 150) = rw7 G v9 := (o_1880 (ad 150) (fun i hS => hin 150 i (by omega) (by omega) (by omega))).trans f_1890
  exact r_i C0 hr hlk hw (v := (lowR ((m_scale ((A.1.2.2.2.2.2 f9)) (zi y9))))) rfl ⟨rfl, ⟨f_1882, (sta_row hn (t := t9) (u := m_scale (A.1.2.2.2.2.2 f9) (zi y9)) (st2 := (genS 1 t9 (m_scale (A.1.2.2.2.2.2 f9) (zi y9)) A.1)) (by omega) f_1881 rfl rfl f_1879 (fun i0 hi => ((o_1880 (ad (i0)) (fun i hS => hin (i0) i (by omega) (by omega) (by omega)))).trans (((hp_1860.2 (ad (i0)) (hin (i0) 134 (by omega) (by omega) (by omega)))).trans (((o_1845 (ad (i0)) )).trans (((hp_1829.2 (ad (i0)) (fun i hS => hin (i0) i (by omega) (by omega) (by omega)))).trans (((hp_1826.2 (ad (i0)) (fun i hS => hin (i0) i (by omega) (by omega) (by omega)))).trans (((hp_1822 (ad (i0)) )).trans (((hp_1818 (ad (i0)) )).trans ((hp_1816 (ad (i0)) )))))))))), (hp_1826.1.keep (fun i0 hi => ((o_1880 (ad (i0)) (fun i hS => hin (i0) i (by omega) (by omega) (by omega)))).trans (((hp_1860.2 (ad (i0)) (hin (i0) 134 (by omega) (by omega) (by omega)))).trans (((o_1845 (ad (i0)) )).trans ((hp_1829.2 (ad (i0)) (fun i hS => hin (i0) i (by omega) (by omega) (by omega)))))))), (hsn.keep (fun i0 hi => ((o_1880 (ad (i0)) (fun i hS => hin (i0) i (by omega) (by omega) (by omega)))).trans (((hp_1860.2 (ad (i0)) (hin (i0) 134 (by omega) (by omega) (by omega)))).trans (((o_1845 (ad (i0)) )).trans (((hp_1829.2 (ad (i0)) (fun i hS => hin (i0) i (by omega) (by omega) (by omega)))).trans (((hp_1826.2 (ad (i0)) (fun i hS => hin (i0) i (by omega) (by omega) (by omega)))).trans (((hp_1822 (ad (i0)) )).trans (((hp_1818 (ad (i0)) )).trans ((hp_1816 (ad (i0)) )))))))))), (htx.keep (fun i0 hi => ((o_1880 (ad (i0)) (fun i hS => hin (i0) i (by omega) (by omega) (by omega)))).trans (((hp_1860.2 (ad (i0)) (hin (i0) 134 (by omega) (by omega) (by omega)))).trans (((o_1845 (ad (i0)) )).trans (((hp_1829.2 (ad (i0)) (fun i hS => hin (i0) i (by omega) (by omega) (by omega)))).trans (((hp_1826.2 (ad (i0)) (fun i hS => hin (i0) i (by omega) (by omega) (by omega)))).trans (((hp_1822 (ad (i0)) )).trans (((hp_1818 (ad (i0)) )).trans ((hp_1816 (ad (i0)) )))))))))), (hrk.keep (fun i0 hi => ((o_1880 (ad (i0)) (fun i hS => hin (i0) i (by omega) (by omega) (by omega)))).trans (((hp_1860.2 (ad (i0)) (hin (i0) 134 (by omega) (by omega) (by omega)))).trans (((o_1845 (ad (i0)) )).trans (((hp_1829.2 (ad (i0)) (fun i hS => hin (i0) i (by omega) (by omega) (by omega)))).trans (((hp_1826.2 (ad (i0)) (fun i hS => hin (i0) i (by omega) (by omega) (by omega)))).trans (((hp_1822 (ad (i0)) )).trans (((hp_1818 (ad (i0)) )).trans ((hp_1816 (ad (i0)) )))))))))), ⟨_, f_1883⟩, ⟨_, f_1891⟩⟩, (fun q hq => ((o_1880 q (fun i hS => hq i (by omega))).trans ((hp_1860.2 q (hq 134 (by omega))).trans ((o_1845 q ).trans ((hp_1829.2 q (fun i hS => hq i (by omega))).trans ((hp_1826.2 q (fun i hS => hq i (by omega))).trans ((hp_1822 q ).trans ((hp_1818 q ).trans (hp_1816 q )))))))))⟩ (Nat.le_refl _) (Nat.le_refl _) dX5_scale_71 hQ
abbrev rm_X5_repeat : Room := { frames := 5, cells := 0, slots := 0, locals := 123 }
set_option maxHeartbeats 4000000 in
set_option maxRecDepth 100000 in
theorem c_X5_repeat (l : Launch) (G : Gl) (L : List Nat) (F : Nat → va_E) (ad : Nat → Nat) (hL : ∀ i, i < 166 → ad i ∈ L) (hin : ∀ i j, i < 166 → j < 166 → i ≠ j → ad i ≠ ad j) (A : AB) (f9 t9 : Nat) (z9 : ZP) (hf9 : f9 < 6) (ht9 : t9 < 6) (hm : 8 * A.1.1 ≤ A.1.2.1) (hX : XW G F ad A) (hA : okA A) : CI l yX5_repeat cX5_repeat 4 (some .int) rm_X5_repeat G L F [.ref (ad 0), .int (nI (f9)), .int (nI (z9.val)), .int (nI (t9))] (fun r F1 => r = lowR (m_rep (A.1.2.2.2.2.2 (6 + f9)) z9 A.1.1) ∧ XW G F1 ad (aSave A (genS 8 (6 + t9) (m_rep (A.1.2.2.2.2.2 (6 + f9)) z9 A.1.1) A.1)) ∧ ∀ q, (∀ i, (i < 166) → q ≠ ad i) → F1 q = F q) := by
  obtain ⟨fx, hn, hh, hsn, htx, hrk, ⟨u9, h134⟩, ⟨v9, h150⟩⟩ := hX
  obtain ⟨⟨hc2, hc, hpu, hok⟩, ⟨hh6, hho⟩, hso, hl60, hco⟩ := id hA
  obtain ⟨s_13, hs_13⟩ := hrk.2 13 (by decide)
  obtain ⟨s_12, hs_12⟩ := hrk.2 12 (by decide)
  obtain ⟨s_11, hs_11⟩ := hrk.2 11 (by decide)
  obtain ⟨s_10, hs_10⟩ := hrk.2 10 (by decide)
  obtain ⟨s_9, hs_9⟩ := hrk.2 9 (by decide)
  obtain ⟨s_8, hs_8⟩ := hrk.2 8 (by decide)
  obtain ⟨s_7, hs_7⟩ := hrk.2 7 (by decide)
  obtain ⟨s_6, hs_6⟩ := hrk.2 6 (by decide)
  obtain ⟨s_5, hs_5⟩ := hrk.2 5 (by decide)
  obtain ⟨s_4, hs_4⟩ := hrk.2 4 (by decide)
  obtain ⟨s_3, hs_3⟩ := hrk.2 3 (by decide)
  obtain ⟨s_2, hs_2⟩ := hrk.2 2 (by decide)
  obtain ⟨s_1, hs_1⟩ := hrk.2 1 (by decide)
  obtain ⟨s_0, hs_0⟩ := hrk.2 0 (by decide)
  refine CG_of (by decide) (Nat.le_of_ble_eq_true rfl) rfl ?_
  intro p e s m args below meth c Q C0 hr hlk hnm hQ hw ls hl
  have hx := C0.x
  have hb := C0.b
  refine lv_aload_n hx hb dX5_repeat_0 rfl (lv_at hl 0 rfl) ?_
  refine lv_bipush (v := nI 8) hx hb dX5_repeat_1 (by decide) ?_
  refine q_callv hw (q_runV (As := [.int (nI (8))]) (c_X5_needMoney l G L F ad hL hin 8 A.1 fx hn (by omega) (by omega)) C0 hw vw_X5_111 ((hL 0 (by omega))) fx rfl rfl rfl hl.1 rfl (Nat.le_of_ble_eq_true rfl) dX5_repeat_3 ⟨by decide, by decide⟩ ⟨by decide, by decide⟩) rfl rfl (fun F_1892 H locs hw hp_1893 => ?_)
  refine lv_aload_n hx hb dX5_repeat_6 rfl (lv_at hl 0 rfl) ?_
  have f_1894 : F_1892 (ad 0) = xO ad := (hp_1893 (ad 0) ).trans fx
  refine q_get C0 hw ((hL 0 (by omega))) f_1894 fw_X5_19 rfl dX5_repeat_7 ?_
  refine lv_aload_n hx hb dX5_repeat_10 rfl (lv_at hl 0 rfl) ?_
  refine q_get C0 hw ((hL 0 (by omega))) f_1894 fw_X5_12 rfl dX5_repeat_11 ?_
  obtain ⟨_, _, hf_1895, _⟩ := id (hh.keep (fun i0 hi => (hp_1893 (ad (i0)) )))
  refine q_callv hw (q_runV (As := [.ref (ad 22)]) (c_X0_save l G L F_1892 ad hL hin A.2.1 A.1 (hh.keep (fun i0 hi => (hp_1893 (ad (i0)) ))) (hn.keep (fun i0 hi => (hp_1893 (ad (i0)) )))) C0 hw vw_X5_62 ((hL 1 (by omega))) hf_1895 rfl rfl rfl hl.1 rfl (Nat.le_of_ble_eq_true rfl) dX5_repeat_14 ⟨by decide, by decide⟩ ⟨by decide, by decide⟩) rfl rfl (fun F_1896 H locs hw hp_1897 => ?_)
  refine lv_aload_n hx hb dX5_repeat_17 rfl (lv_at hl 0 rfl) ?_
  refine lv_bipush (v := nI 8) hx hb dX5_repeat_18 (by decide) ?_
  have f_1898 : F_1896 (ad 0) = xO ad := (hp_1897.2 (ad 0) (fun i hS => hin 0 i (by omega) (by omega) (by omega))).trans f_1894
  refine q_callv hw (q_runV (As := [.int (nI (8))]) (c_X5_pay l G L F_1896 ad hL hin 8 A.1 f_1898 (hn.keep (fun i0 hi => ((hp_1897.2 (ad (i0)) (fun i hS => hin (i0) i (by omega) (by omega) (by omega)))).trans ((hp_1893 (ad (i0)) )))) (by omega)) C0 hw vw_X5_114 ((hL 0 (by omega))) f_1898 rfl rfl rfl hl.1 rfl (Nat.le_of_ble_eq_true rfl) dX5_repeat_20 ⟨by decide, by decide⟩ ⟨by decide, by decide⟩) rfl rfl (fun F_1899 H locs hw hp_1900 => ?_)
  refine lv_aload_n hx hb dX5_repeat_23 rfl (lv_at hl 0 rfl) ?_
  have f_1901 : F_1899 (ad 0) = xO ad := (hp_1900.2 (ad 0) (fun i hS => hin 0 i (by omega) (by omega) (by omega))).trans f_1898
  refine q_get C0 hw ((hL 0 (by omega))) f_1901 fw_X5_44 rfl dX5_repeat_24 ?_
  refine lv_aload_n hx hb dX5_repeat_27 rfl (lv_at hl 0 rfl) ?_
  refine q_get C0 hw ((hL 0 (by omega))) f_1901 fw_X5_12 rfl dX5_repeat_28 ?_
  refine q_get C0 hw ((hL 22 (by omega))) hp_1900.1 fw_X5_66 rfl dX5_repeat_31 ?_
  have f_1902 : F_1892 (ad 23) = .inr (2, [.int (nI (A.1.1)), .ref (ad 24), .ref (ad 25)]) := (hp_1893 (ad 23) ).trans hn.2.1
  have f_1903 : F_1896 (ad 23) = .inr (2, [.int (nI (A.1.1)), .ref (ad 24), .ref (ad 25)]) := (hp_1897.2 (ad 23) (fun i hS => hin 23 i (by omega) (by omega) (by omega))).trans f_1902
  have f_1904 : F_1899 (ad 23) = .inr (2, [.int (nI (A.1.1)), .ref (ad 24), .ref (ad 25)]) := (hp_1900.2 (ad 23) (fun i hS => hin 23 i (by omega) (by omega) (by omega))).trans f_1903
  refine q_get C0 hw ((hL 23 (by omega))) f_1904 fw_X5_93 rfl dX5_repeat_34 ?_
  refine lv_iload_n hx hb dX5_repeat_37 rfl (lv_at hl 1 rfl) ?_
  have f_1905 : F_1892 (ad 25) = oE G (fun i => ad (32 + i)) := (hp_1893 (ad 25) ).trans hn.2.2.2.1
  have f_1906 : F_1896 (ad 25) = oE G (fun i => ad (32 + i)) := (hp_1897.2 (ad 25) (fun i hS => hin 25 i (by omega) (by omega) (by omega))).trans f_1905
  have f_1907 : F_1899 (ad 25) = oE G (fun i => ad (32 + i)) := (hp_1900.2 (ad 25) (fun i hS => hin 25 i (by omega) (by omega) (by omega))).trans f_1906
  refine q_aaldi C0 hw ((hL 25 (by omega))) f_1907 (f9) (by omega) (by decide) (b := ad (32 + f9)) rfl dX5_repeat_38 ?_
  refine lv_iload_n hx hb dX5_repeat_39 rfl (lv_at hl 2 rfl) ?_
  refine lv_aload_n hx hb dX5_repeat_40 rfl (lv_at hl 0 rfl) ?_
  refine q_get C0 hw ((hL 0 (by omega))) f_1901 fw_X5_12 rfl dX5_repeat_41 ?_
  refine q_get C0 hw ((hL 22 (by omega))) hp_1900.1 fw_X5_66 rfl dX5_repeat_44 ?_
  refine q_get C0 hw ((hL 23 (by omega))) f_1904 fw_X5_70 rfl dX5_repeat_47 ?_
  refine lv_aload_n hx hb dX5_repeat_50 rfl (lv_at hl 0 rfl) ?_
  refine q_get C0 hw ((hL 0 (by omega))) f_1901 fw_X5_48 rfl dX5_repeat_51 ?_
  have f_1908 : F_1892 (ad (32 + f9)) = rw7 G ((A.1.2.2.2.2.2 (6 + f9))) := (hp_1893 (ad (32 + f9)) ).trans ((show F (ad (32 + f9)) = _ from by have h9 := hn.2.2.2.2 (6 + f9) (by omega); rwa [show 22 + 4 + (6 + f9) = 32 + f9 by omega] at h9))
  have f_1909 : F_1896 (ad (32 + f9)) = rw7 G ((A.1.2.2.2.2.2 (6 + f9))) := (hp_1897.2 (ad (32 + f9)) (fun i hS => hin (32 + f9) i (by omega) (by omega) (by omega))).trans f_1908
  have f_1910 : F_1899 (ad (32 + f9)) = rw7 G ((A.1.2.2.2.2.2 (6 + f9))) := (hp_1900.2 (ad (32 + f9)) (fun i hS => hin (32 + f9) i (by omega) (by omega) (by omega))).trans f_1909
  have f_1911 : F_1892 (ad 134) = rw7 G u9 := (hp_1893 (ad 134) ).trans h134
  have f_1912 : F_1896 (ad 134) = rw7 G u9 := (hp_1897.2 (ad 134) (fun i hS => hin 134 i (by omega) (by omega) (by omega))).trans f_1911
  have f_1913 : F_1899 (ad 134) = rw7 G u9 := (hp_1900.2 (ad 134) (fun i hS => hin 134 i (by omega) (by omega) (by omega))).trans f_1912
  have f_1914 : F_1892 (ad 15) = rw7 G s_7 := (hp_1893 (ad 15) ).trans hs_7
  have f_1915 : F_1896 (ad 15) = rw7 G s_7 := (hp_1897.2 (ad 15) (fun i hS => hin 15 i (by omega) (by omega) (by omega))).trans f_1914
  have f_1916 : F_1899 (ad 15) = rw7 G s_7 := (hp_1900.2 (ad 15) (fun i hS => hin 15 i (by omega) (by omega) (by omega))).trans f_1915
  have f_1917 : F_1892 (ad 12) = rw7 G s_4 := (hp_1893 (ad 12) ).trans hs_4
  have f_1918 : F_1896 (ad 12) = rw7 G s_4 := (hp_1897.2 (ad 12) (fun i hS => hin 12 i (by omega) (by omega) (by omega))).trans f_1917
  have f_1919 : F_1899 (ad 12) = rw7 G s_4 := (hp_1900.2 (ad 12) (fun i hS => hin 12 i (by omega) (by omega) (by omega))).trans f_1918
  have f_1920 : F_1892 (ad 9) = rw7 G s_1 := (hp_1893 (ad 9) ).trans hs_1
  have f_1921 : F_1896 (ad 9) = rw7 G s_1 := (hp_1897.2 (ad 9) (fun i hS => hin 9 i (by omega) (by omega) (by omega))).trans f_1920
  have f_1922 : F_1899 (ad 9) = rw7 G s_1 := (hp_1900.2 (ad 9) (fun i hS => hin 9 i (by omega) (by omega) (by omega))).trans f_1921
  have f_1923 : F_1892 (ad 10) = rw7 G s_2 := (hp_1893 (ad 10) ).trans hs_2
  have f_1924 : F_1896 (ad 10) = rw7 G s_2 := (hp_1897.2 (ad 10) (fun i hS => hin 10 i (by omega) (by omega) (by omega))).trans f_1923
  have f_1925 : F_1899 (ad 10) = rw7 G s_2 := (hp_1900.2 (ad 10) (fun i hS => hin 10 i (by omega) (by omega) (by omega))).trans f_1924
  have f_1926 : F_1892 (ad 7) = rkO (fun i => ad (8 + i)) := (hp_1893 (ad 7) ).trans hrk.1
  have f_1927 : F_1896 (ad 7) = rkO (fun i => ad (8 + i)) := (hp_1897.2 (ad 7) (fun i hS => hin 7 i (by omega) (by omega) (by omega))).trans f_1926
  have f_1928 : F_1899 (ad 7) = rkO (fun i => ad (8 + i)) := (hp_1900.2 (ad 7) (fun i hS => hin 7 i (by omega) (by omega) (by omega))).trans f_1927
  refine q_callv hw (q_runV (As := [.ref (ad (32 + f9)), .int (nI (z9.val)), .int (nI (A.1.1)), .ref (ad 134)]) (c_X1_repeatFlow l G L F_1899 (ad 7) (fun i => ad (8 + i)) (ad (32 + f9)) (ad 134) (A.1.1) ((A.1.2.2.2.2.2 (6 + f9))) u9 s_7 s_4 s_1 s_2 z9 ((hL 7 (by omega))) f_1928 (fun i hi => hL (8 + i) (by omega)) (ra_inj hin) ((hL (32 + f9) (by omega))) f_1910 ((hL 134 (by omega))) f_1913 f_1916 f_1919 f_1922 f_1925 (hin (32 + f9) 134 (by omega) (by omega) (by omega)) (hin (32 + f9) 15 (by omega) (by omega) (by omega)) (hin 134 15 (by omega) (by omega) (by omega)) (hin (32 + f9) 12 (by omega) (by omega) (by omega)) (hin 134 12 (by omega) (by omega) (by omega)) (hin (32 + f9) 9 (by omega) (by omega) (by omega)) (hin 134 9 (by omega) (by omega) (by omega)) (hin (32 + f9) 10 (by omega) (by omega) (by omega)) (hin 134 10 (by omega) (by omega) (by omega)) (by omega) (by omega) ) C0 hw vw_X5_295 ((hL 7 (by omega))) f_1928 rfl rfl rfl hl.1 rfl (Nat.le_of_ble_eq_true rfl) dX5_repeat_54 ⟨by decide, by decide⟩ ⟨by decide, by decide⟩) rfl rfl (fun F_1929 H locs hw hp_1930 => ?_)
  obtain ⟨f_1931, ⟨t_1936, f_1932⟩, ⟨t_1937, f_1933⟩, ⟨t_1938, f_1934⟩, ⟨t_1939, f_1935⟩, o_1940⟩ := hp_1930
  refine lv_aload_n hx hb dX5_repeat_57 rfl (lv_at hl 0 rfl) ?_
  refine lv_aload_n hx hb dX5_repeat_58 rfl (lv_at hl 0 rfl) ?_
  have f_1941 : F_1929 (ad 0) = xO ad := (o_1940 (ad 0) (hin 0 134 (by omega) (by omega) (by omega)) (hin 0 15 (by omega) (by omega) (by omega)) (hin 0 12 (by omega) (by omega) (by omega)) (hin 0 9 (by omega) (by omega) (by omega)) (hin 0 10 (by omega) (by omega) (by omega))).trans f_1901
  refine q_get C0 hw ((hL 0 (by omega))) f_1941 fw_X5_12 rfl dX5_repeat_59 ?_
  have f_1942 : F_1929 (ad 22) = .inr (3, [.ref (ad 23), .int (nI (A.1.2.1 - 8 * A.1.1)), .int (nI (A.1.2.2.1 + 8 * A.1.1)), .int (nI (A.1.2.2.2.1 + 1)), .int (nI (A.1.2.2.2.2.1))]) := (o_1940 (ad 22) (hin 22 134 (by omega) (by omega) (by omega)) (hin 22 15 (by omega) (by omega) (by omega)) (hin 22 12 (by omega) (by omega) (by omega)) (hin 22 9 (by omega) (by omega) (by omega)) (hin 22 10 (by omega) (by omega) (by omega))).trans hp_1900.1
  refine q_get C0 hw ((hL 22 (by omega))) f_1942 fw_X5_66 rfl dX5_repeat_62 ?_
  have f_1943 : F_1929 (ad 23) = .inr (2, [.int (nI (A.1.1)), .ref (ad 24), .ref (ad 25)]) := (o_1940 (ad 23) (hin 23 134 (by omega) (by omega) (by omega)) (hin 23 15 (by omega) (by omega) (by omega)) (hin 23 12 (by omega) (by omega) (by omega)) (hin 23 9 (by omega) (by omega) (by omega)) (hin 23 10 (by omega) (by omega) (by omega))).trans f_1904
  refine q_get C0 hw ((hL 23 (by omega))) f_1943 fw_X5_93 rfl dX5_repeat_65 ?_
  refine lv_iload_n hx hb dX5_repeat_68 rfl (lv_at hl 3 rfl) ?_
  have f_1944 : F_1929 (ad 25) = oE G (fun i => ad (32 + i)) := (o_1940 (ad 25) (hin 25 134 (by omega) (by omega) (by omega)) (hin 25 15 (by omega) (by omega) (by omega)) (hin 25 12 (by omega) (by omega) (by omega)) (hin 25 9 (by omega) (by omega) (by omega)) (hin 25 10 (by omega) (by omega) (by omega))).trans f_1907
  refine q_aaldi C0 hw ((hL 25 (by omega))) f_1944 (t9) (by omega) (by decide) (b := ad (32 + t9)) rfl dX5_repeat_69 ?_
  refine n_top (show Value.ref (ad (32 + t9)) = Value.ref (ad (26 + (6 + t9))) by rw [show 32 + t9 = 26 + (6 + t9) by omega]) ?_
  have f_1945 : F_1892 (ad (26 + (6 + t9))) = rw7 G ((A.1.2.2.2.2.2 (6 + t9))) := (hp_1893 (ad (26 + (6 + t9))) ).trans ((hn.2.2.2.2 (6 + t9) (by omega)))
  have f_1946 : F_1896 (ad (26 + (6 + t9))) = rw7 G ((A.1.2.2.2.2.2 (6 + t9))) := (hp_1897.2 (ad (26 + (6 + t9))) (fun i hS => hin ((26 + (6 + t9))) i (by omega) (by omega) (by omega))).trans f_1945
  have f_1947 : F_1899 (ad (26 + (6 + t9))) = rw7 G ((A.1.2.2.2.2.2 (6 + t9))) := (hp_1900.2 (ad (26 + (6 + t9))) (fun i hS => hin ((26 + (6 + t9))) i (by omega) (by omega) (by omega))).trans f_1946
  have f_1948 : F_1929 (ad (26 + (6 + t9))) = rw7 G ((A.1.2.2.2.2.2 (6 + t9))) := (o_1940 (ad (26 + (6 + t9))) (hin ((26 + (6 + t9))) 134 (by omega) (by omega) (by omega)) (hin ((26 + (6 + t9))) 15 (by omega) (by omega) (by omega)) (hin ((26 + (6 + t9))) 12 (by omega) (by omega) (by omega)) (hin ((26 + (6 + t9))) 9 (by omega) (by omega) (by omega)) (hin ((26 + (6 + t9))) 10 (by omega) (by omega) (by omega))).trans f_1947
  refine q_calli hw (q_runV (As := [.ref (ad (26 + (6 + t9)))]) (c_X5_put l G L F_1929 ad hL hin (6 + t9) ((m_rep ((A.1.2.2.2.2.2 (6 + f9))) z9 (A.1.1))) ((A.1.2.2.2.2.2 (6 + t9))) f_1941 f_1931 f_1948 (by omega)) C0 hw vw_X5_127 ((hL 0 (by omega))) f_1941 rfl rfl rfl hl.1 rfl (Nat.le_of_ble_eq_true rfl) dX5_repeat_70 ⟨by decide, by decide⟩ ⟨by decide, by decide⟩) rfl rfl (fun r_1951 F_1949 H locs hw hp_1950 => ?_)
  obtain ⟨he_1952, f_1953, o_1954⟩ := hp_1950
  subst he_1952
  have f_1955 : F_1949 (ad 22) = .inr (3, [.ref (ad 23), .int (nI (A.1.2.1 - 8 * A.1.1)), .int (nI (A.1.2.2.1 + 8 * A.1.1)), .int (nI (A.1.2.2.2.1 + 1)), .int (nI (A.1.2.2.2.2.1))]) := (o_1954 (ad 22) (fun i hS => hin 22 i (by omega) (by omega) (by omega))).trans f_1942
  have f_1956 : F_1929 (ad 7) = rkO (fun i => ad (8 + i)) := (o_1940 (ad 7) (hin 7 134 (by omega) (by omega) (by omega)) (hin 7 15 (by omega) (by omega) (by omega)) (hin 7 12 (by omega) (by omega) (by omega)) (hin 7 9 (by omega) (by omega) (by omega)) (hin 7 10 (by omega) (by omega) (by omega))).trans f_1928
  have f_1957 : F_1949 (ad 7) = rkO (fun i => ad (8 + i)) := (o_1954 (ad 7) (fun i hS => hin 7 i (by omega) (by omega) (by omega))).trans f_1956
  have f_1958 : F_1892 (ad 8) = rw7 G s_0 := (hp_1893 (ad 8) ).trans hs_0
  have f_1959 : F_1896 (ad 8) = rw7 G s_0 := (hp_1897.2 (ad 8) (fun i hS => hin 8 i (by omega) (by omega) (by omega))).trans f_1958
  have f_1960 : F_1899 (ad 8) = rw7 G s_0 := (hp_1900.2 (ad 8) (fun i hS => hin 8 i (by omega) (by omega) (by omega))).trans f_1959
  have f_1961 : F_1929 (ad 8) = rw7 G s_0 := (o_1940 (ad 8) (hin 8 134 (by omega) (by omega) (by omega)) (hin 8 15 (by omega) (by omega) (by omega)) (hin 8 12 (by omega) (by omega) (by omega)) (hin 8 9 (by omega) (by omega) (by omega)) (hin 8 10 (by omega) (by omega) (by omega))).trans f_1960
  have f_1962 : F_1949 (ad 8) = rw7 G s_0 := (o_1954 (ad 8) (fun i hS => hin 8 i (by omega) (by omega) (by omega))).trans f_1961
  have f_1963 : F_1949 (ad 9) = rw7 G t_1938 := (o_1954 (ad 9) (fun i hS => hin 9 i (by omega) (by omega) (by omega))).trans f_1934
  have f_1964 : F_1949 (ad 10) = rw7 G t_1939 := (o_1954 (ad 10) (fun i hS => hin 10 i (by omega) (by omega) (by omega))).trans f_1935
  have f_1965 : F_1892 (ad 11) = rw7 G s_3 := (hp_1893 (ad 11) ).trans hs_3
  have f_1966 : F_1896 (ad 11) = rw7 G s_3 := (hp_1897.2 (ad 11) (fun i hS => hin 11 i (by omega) (by omega) (by omega))).trans f_1965
  have f_1967 : F_1899 (ad 11) = rw7 G s_3 := (hp_1900.2 (ad 11) (fun i hS => hin 11 i (by omega) (by omega) (by omega))).trans f_1966
  have f_1968 : F_1929 (ad 11) = rw7 G s_3 := (o_1940 (ad 11) (hin 11 134 (by omega) (by omega) (by omega)) (hin 11 15 (by omega) (by omega) (by omega)) (hin 11 12 (by omega) (by omega) (by omega)) (hin 11 9 (by omega) (by omega) (by omega)) (hin 11 10 (by omega) (by omega) (by omega))).trans f_1967
  have f_1969 : F_1949 (ad 11) = rw7 G s_3 := (o_1954 (ad 11) (fun i hS => hin 11 i (by omega) (by omega) (by omega))).trans f_1968
  have f_1970 : F_1949 (ad 12) = rw7 G t_1937 := (o_1954 (ad 12) (fun i hS => hin 12 i (by omega) (by omega) (by omega))).trans f_1933
  have f_1971 : F_1892 (ad 13) = rw7 G s_5 := (hp_1893 (ad 13) ).trans hs_5
  have f_1972 : F_1896 (ad 13) = rw7 G s_5 := (hp_1897.2 (ad 13) (fun i hS => hin 13 i (by omega) (by omega) (by omega))).trans f_1971
  have f_1973 : F_1899 (ad 13) = rw7 G s_5 := (hp_1900.2 (ad 13) (fun i hS => hin 13 i (by omega) (by omega) (by omega))).trans f_1972
  have f_1974 : F_1929 (ad 13) = rw7 G s_5 := (o_1940 (ad 13) (hin 13 134 (by omega) (by omega) (by omega)) (hin 13 15 (by omega) (by omega) (by omega)) (hin 13 12 (by omega) (by omega) (by omega)) (hin 13 9 (by omega) (by omega) (by omega)) (hin 13 10 (by omega) (by omega) (by omega))).trans f_1973
  have f_1975 : F_1949 (ad 13) = rw7 G s_5 := (o_1954 (ad 13) (fun i hS => hin 13 i (by omega) (by omega) (by omega))).trans f_1974
  have f_1976 : F_1892 (ad 14) = rw7 G s_6 := (hp_1893 (ad 14) ).trans hs_6
  have f_1977 : F_1896 (ad 14) = rw7 G s_6 := (hp_1897.2 (ad 14) (fun i hS => hin 14 i (by omega) (by omega) (by omega))).trans f_1976
  have f_1978 : F_1899 (ad 14) = rw7 G s_6 := (hp_1900.2 (ad 14) (fun i hS => hin 14 i (by omega) (by omega) (by omega))).trans f_1977
  have f_1979 : F_1929 (ad 14) = rw7 G s_6 := (o_1940 (ad 14) (hin 14 134 (by omega) (by omega) (by omega)) (hin 14 15 (by omega) (by omega) (by omega)) (hin 14 12 (by omega) (by omega) (by omega)) (hin 14 9 (by omega) (by omega) (by omega)) (hin 14 10 (by omega) (by omega) (by omega))).trans f_1978
  have f_1980 : F_1949 (ad 14) = rw7 G s_6 := (o_1954 (ad 14) (fun i hS => hin 14 i (by omega) (by omega) (by omega))).trans f_1979
  have f_1981 : F_1949 (ad 15) = rw7 G t_1936 := (o_1954 (ad 15) (fun i hS => hin 15 i (by omega) (by omega) (by omega))).trans f_1932
  have f_1982 : F_1892 (ad 16) = rw7 G s_8 := (hp_1893 (ad 16) ).trans hs_8
  have f_1983 : F_1896 (ad 16) = rw7 G s_8 := (hp_1897.2 (ad 16) (fun i hS => hin 16 i (by omega) (by omega) (by omega))).trans f_1982
  have f_1984 : F_1899 (ad 16) = rw7 G s_8 := (hp_1900.2 (ad 16) (fun i hS => hin 16 i (by omega) (by omega) (by omega))).trans f_1983
  have f_1985 : F_1929 (ad 16) = rw7 G s_8 := (o_1940 (ad 16) (hin 16 134 (by omega) (by omega) (by omega)) (hin 16 15 (by omega) (by omega) (by omega)) (hin 16 12 (by omega) (by omega) (by omega)) (hin 16 9 (by omega) (by omega) (by omega)) (hin 16 10 (by omega) (by omega) (by omega))).trans f_1984
  have f_1986 : F_1949 (ad 16) = rw7 G s_8 := (o_1954 (ad 16) (fun i hS => hin 16 i (by omega) (by omega) (by omega))).trans f_1985
  have f_1987 : F_1892 (ad 17) = rw7 G s_9 := (hp_1893 (ad 17) ).trans hs_9
  have f_1988 : F_1896 (ad 17) = rw7 G s_9 := (hp_1897.2 (ad 17) (fun i hS => hin 17 i (by omega) (by omega) (by omega))).trans f_1987
  have f_1989 : F_1899 (ad 17) = rw7 G s_9 := (hp_1900.2 (ad 17) (fun i hS => hin 17 i (by omega) (by omega) (by omega))).trans f_1988
  have f_1990 : F_1929 (ad 17) = rw7 G s_9 := (o_1940 (ad 17) (hin 17 134 (by omega) (by omega) (by omega)) (hin 17 15 (by omega) (by omega) (by omega)) (hin 17 12 (by omega) (by omega) (by omega)) (hin 17 9 (by omega) (by omega) (by omega)) (hin 17 10 (by omega) (by omega) (by omega))).trans f_1989
  have f_1991 : F_1949 (ad 17) = rw7 G s_9 := (o_1954 (ad 17) (fun i hS => hin 17 i (by omega) (by omega) (by omega))).trans f_1990
  have f_1992 : F_1892 (ad 18) = rw7 G s_10 := (hp_1893 (ad 18) ).trans hs_10
  have f_1993 : F_1896 (ad 18) = rw7 G s_10 := (hp_1897.2 (ad 18) (fun i hS => hin 18 i (by omega) (by omega) (by omega))).trans f_1992
  have f_1994 : F_1899 (ad 18) = rw7 G s_10 := (hp_1900.2 (ad 18) (fun i hS => hin 18 i (by omega) (by omega) (by omega))).trans f_1993
  have f_1995 : F_1929 (ad 18) = rw7 G s_10 := (o_1940 (ad 18) (hin 18 134 (by omega) (by omega) (by omega)) (hin 18 15 (by omega) (by omega) (by omega)) (hin 18 12 (by omega) (by omega) (by omega)) (hin 18 9 (by omega) (by omega) (by omega)) (hin 18 10 (by omega) (by omega) (by omega))).trans f_1994
  have f_1996 : F_1949 (ad 18) = rw7 G s_10 := (o_1954 (ad 18) (fun i hS => hin 18 i (by omega) (by omega) (by omega))).trans f_1995
  have f_1997 : F_1892 (ad 19) = rw7 G s_11 := (hp_1893 (ad 19) ).trans hs_11
  have f_1998 : F_1896 (ad 19) = rw7 G s_11 := (hp_1897.2 (ad 19) (fun i hS => hin 19 i (by omega) (by omega) (by omega))).trans f_1997
  have f_1999 : F_1899 (ad 19) = rw7 G s_11 := (hp_1900.2 (ad 19) (fun i hS => hin 19 i (by omega) (by omega) (by omega))).trans f_1998
  have f_2000 : F_1929 (ad 19) = rw7 G s_11 := (o_1940 (ad 19) (hin 19 134 (by omega) (by omega) (by omega)) (hin 19 15 (by omega) (by omega) (by omega)) (hin 19 12 (by omega) (by omega) (by omega)) (hin 19 9 (by omega) (by omega) (by omega)) (hin 19 10 (by omega) (by omega) (by omega))).trans f_1999
  have f_2001 : F_1949 (ad 19) = rw7 G s_11 := (o_1954 (ad 19) (fun i hS => hin 19 i (by omega) (by omega) (by omega))).trans f_2000
  have f_2002 : F_1892 (ad 20) = rw7 G s_12 := (hp_1893 (ad 20) ).trans hs_12
  have f_2003 : F_1896 (ad 20) = rw7 G s_12 := (hp_1897.2 (ad 20) (fun i hS => hin 20 i (by omega) (by omega) (by omega))).trans f_2002
  have f_2004 : F_1899 (ad 20) = rw7 G s_12 := (hp_1900.2 (ad 20) (fun i hS => hin 20 i (by omega) (by omega) (by omega))).trans f_2003
  have f_2005 : F_1929 (ad 20) = rw7 G s_12 := (o_1940 (ad 20) (hin 20 134 (by omega) (by omega) (by omega)) (hin 20 15 (by omega) (by omega) (by omega)) (hin 20 12 (by omega) (by omega) (by omega)) (hin 20 9 (by omega) (by omega) (by omega)) (hin 20 10 (by omega) (by omega) (by omega))).trans f_2004
  have f_2006 : F_1949 (ad 20) = rw7 G s_12 := (o_1954 (ad 20) (fun i hS => hin 20 i (by omega) (by omega) (by omega))).trans f_2005
  have f_2007 : F_1892 (ad 21) = rw7 G s_13 := (hp_1893 (ad 21) ).trans hs_13
  have f_2008 : F_1896 (ad 21) = rw7 G s_13 := (hp_1897.2 (ad 21) (fun i hS => hin 21 i (by omega) (by omega) (by omega))).trans f_2007
  have f_2009 : F_1899 (ad 21) = rw7 G s_13 := (hp_1900.2 (ad 21) (fun i hS => hin 21 i (by omega) (by omega) (by omega))).trans f_2008
  have f_2010 : F_1929 (ad 21) = rw7 G s_13 := (o_1940 (ad 21) (hin 21 134 (by omega) (by omega) (by omega)) (hin 21 15 (by omega) (by omega) (by omega)) (hin 21 12 (by omega) (by omega) (by omega)) (hin 21 9 (by omega) (by omega) (by omega)) (hin 21 10 (by omega) (by omega) (by omega))).trans f_2009
  have f_2011 : F_1949 (ad 21) = rw7 G s_13 := (o_1954 (ad 21) (fun i hS => hin 21 i (by omega) (by omega) (by omega))).trans f_2010
  have f_2012 : F_1949 (ad 0) = xO ad := (o_1954 (ad 0) (fun i hS => hin 0 i (by omega) (by omega) (by omega))).trans f_1941
  have f_2013 : F_1949 (ad 134) = rw7 G ((m_rep ((A.1.2.2.2.2.2 (6 + f9))) z9 (A.1.1))) := (o_1954 (ad 134) (fun i hS => hin 134 i (by omega) (by omega) (by omega))).trans f_1931
  have f_2014 : F_1892 (ad 150) = rw7 G v9 := (hp_1893 (ad 150) ).trans h150
  have f_2015 : F_1896 (ad 150) = rw7 G v9 := (hp_1897.2 (ad 150) (fun i hS => hin 150 i (by omega) (by omega) (by omega))).trans f_2014
  have f_2016 : F_1899 (ad 150) = rw7 G v9 := (hp_1900.2 (ad 150) (fun i hS => hin 150 i (by omega) (by omega) (by omega))).trans f_2015
  have f_2017 : F_1929 (ad 150) = rw7 G v9 := (o_1940 (ad 150) (hin 150 134 (by omega) (by omega) (by omega)) (hin 150 15 (by omega) (by omega) (by omega)) (hin 150 12 (by omega) (by omega) (by omega)) (hin 150 9 (by omega) (by omega) (by omega)) (hin 150 10 (by omega) (by omega) (by omega))).trans f_2016
  have f_2018 : F_1949 (ad 150) = rw7 G v9 := (o_1954 (ad 150) (fun i hS => hin 150 i (by omega) (by omega) (by omega))).trans f_2017
  exact r_i C0 hr hlk hw (v := (lowR ((m_rep ((A.1.2.2.2.2.2 (6 + f9))) z9 (A.1.1))))) rfl ⟨rfl, ⟨f_2012, (sta_row hn (t := 6 + t9) (u := m_rep (A.1.2.2.2.2.2 (6 + f9)) z9 A.1.1) (st2 := (genS 8 (6 + t9) (m_rep (A.1.2.2.2.2.2 (6 + f9)) z9 A.1.1) A.1)) (by omega) f_1955 rfl rfl f_1953 (fun i0 hi => ((o_1954 (ad (i0)) (fun i hS => hin (i0) i (by omega) (by omega) (by omega)))).trans (((o_1940 (ad (i0)) (hin (i0) 134 (by omega) (by omega) (by omega)) (hin (i0) 15 (by omega) (by omega) (by omega)) (hin (i0) 12 (by omega) (by omega) (by omega)) (hin (i0) 9 (by omega) (by omega) (by omega)) (hin (i0) 10 (by omega) (by omega) (by omega)))).trans (((hp_1900.2 (ad (i0)) (fun i hS => hin (i0) i (by omega) (by omega) (by omega)))).trans (((hp_1897.2 (ad (i0)) (fun i hS => hin (i0) i (by omega) (by omega) (by omega)))).trans ((hp_1893 (ad (i0)) ))))))), (hp_1897.1.keep (fun i0 hi => ((o_1954 (ad (i0)) (fun i hS => hin (i0) i (by omega) (by omega) (by omega)))).trans (((o_1940 (ad (i0)) (hin (i0) 134 (by omega) (by omega) (by omega)) (hin (i0) 15 (by omega) (by omega) (by omega)) (hin (i0) 12 (by omega) (by omega) (by omega)) (hin (i0) 9 (by omega) (by omega) (by omega)) (hin (i0) 10 (by omega) (by omega) (by omega)))).trans ((hp_1900.2 (ad (i0)) (fun i hS => hin (i0) i (by omega) (by omega) (by omega))))))), (hsn.keep (fun i0 hi => ((o_1954 (ad (i0)) (fun i hS => hin (i0) i (by omega) (by omega) (by omega)))).trans (((o_1940 (ad (i0)) (hin (i0) 134 (by omega) (by omega) (by omega)) (hin (i0) 15 (by omega) (by omega) (by omega)) (hin (i0) 12 (by omega) (by omega) (by omega)) (hin (i0) 9 (by omega) (by omega) (by omega)) (hin (i0) 10 (by omega) (by omega) (by omega)))).trans (((hp_1900.2 (ad (i0)) (fun i hS => hin (i0) i (by omega) (by omega) (by omega)))).trans (((hp_1897.2 (ad (i0)) (fun i hS => hin (i0) i (by omega) (by omega) (by omega)))).trans ((hp_1893 (ad (i0)) ))))))), (htx.keep (fun i0 hi => ((o_1954 (ad (i0)) (fun i hS => hin (i0) i (by omega) (by omega) (by omega)))).trans (((o_1940 (ad (i0)) (hin (i0) 134 (by omega) (by omega) (by omega)) (hin (i0) 15 (by omega) (by omega) (by omega)) (hin (i0) 12 (by omega) (by omega) (by omega)) (hin (i0) 9 (by omega) (by omega) (by omega)) (hin (i0) 10 (by omega) (by omega) (by omega)))).trans (((hp_1900.2 (ad (i0)) (fun i hS => hin (i0) i (by omega) (by omega) (by omega)))).trans (((hp_1897.2 (ad (i0)) (fun i hS => hin (i0) i (by omega) (by omega) (by omega)))).trans ((hp_1893 (ad (i0)) ))))))), ⟨f_1957, lt14 ⟨_, f_1962⟩ ⟨_, f_1963⟩ ⟨_, f_1964⟩ ⟨_, f_1969⟩ ⟨_, f_1970⟩ ⟨_, f_1975⟩ ⟨_, f_1980⟩ ⟨_, f_1981⟩ ⟨_, f_1986⟩ ⟨_, f_1991⟩ ⟨_, f_1996⟩ ⟨_, f_2001⟩ ⟨_, f_2006⟩ ⟨_, f_2011⟩⟩, ⟨_, f_2013⟩, ⟨_, f_2018⟩⟩, (fun q hq => ((o_1954 q (fun i hS => hq i (by omega))).trans ((o_1940 q (hq 134 (by omega)) (hq 15 (by omega)) (hq 12 (by omega)) (hq 9 (by omega)) (hq 10 (by omega))).trans ((hp_1900.2 q (fun i hS => hq i (by omega))).trans ((hp_1897.2 q (fun i hS => hq i (by omega))).trans (hp_1893 q ))))))⟩ (Nat.le_refl _) (Nat.le_refl _) dX5_repeat_73 hQ
abbrev rm_X5_power : Room := { frames := 6, cells := 0, slots := 0, locals := 146 }
set_option maxHeartbeats 4000000 in
set_option maxRecDepth 100000 in
theorem c_X5_power (l : Launch) (G : Gl) (L : List Nat) (F : Nat → va_E) (ad : Nat → Nat) (hL : ∀ i, i < 166 → ad i ∈ L) (hin : ∀ i j, i < 166 → j < 166 → i ≠ j → ad i ≠ ad j) (A : AB) (f9 t9 : Nat) (y9 : Int32) (hf9 : f9 < 6) (ht9 : t9 < 6) (hy1 : ¬ y9 < -5000) (hy2 : y9 ≤ nI 5000) (hm : 8 * A.1.1 ≤ A.1.2.1) (hX : XW G F ad A) (hA : okA A) : CI l yX5_power cX5_power 4 (some .int) rm_X5_power G L F [.ref (ad 0), .int (nI (f9)), .int (y9), .int (nI (t9))] (fun r F1 => r = lowR (m_rep (A.1.2.2.2.2.2 (6 + f9)) (zi y9) A.1.1) ∧ XW G F1 ad (aSave A (genS 8 (6 + t9) (m_rep (A.1.2.2.2.2.2 (6 + f9)) (zi y9) A.1.1) A.1)) ∧ ∀ q, (∀ i, (i < 166) → q ≠ ad i) → F1 q = F q) := by
  obtain ⟨fx, hn, hh, hsn, htx, hrk, ⟨u9, h134⟩, ⟨v9, h150⟩⟩ := id hX
  obtain ⟨⟨hc2, hc, hpu, hok⟩, ⟨hh6, hho⟩, hso, hl60, hco⟩ := id hA
  refine CG_of (by decide) (Nat.le_of_ble_eq_true rfl) rfl ?_
  intro p e s m args below meth c Q C0 hr hlk hnm hQ hw ls hl
  have hx := C0.x
  have hb := C0.b
  refine lv_iload_n hx hb dX5_power_0 rfl (lv_at hl 1 rfl) ?_
  refine q_callv hw (q_runS (As := [.int (nI (f9))]) (c_X5_needSlot l G L F f9 (by omega)) C0 hw sw_X5_78 rfl hl.1 rfl (Nat.le_of_ble_eq_true rfl) dX5_power_1 ⟨by decide, by decide⟩ ⟨by decide, by decide⟩) rfl rfl (fun F_2019 H locs hw hp_2020 => ?_)
  refine lv_iload_n hx hb dX5_power_4 rfl (lv_at hl 3 rfl) ?_
  refine q_callv hw (q_runS (As := [.int (nI (t9))]) (c_X5_needSlot l G L F_2019 t9 (by omega)) C0 hw sw_X5_78 rfl hl.1 rfl (Nat.le_of_ble_eq_true rfl) dX5_power_5 ⟨by decide, by decide⟩ ⟨by decide, by decide⟩) rfl rfl (fun F_2021 H locs hw hp_2022 => ?_)
  refine lv_iload_n hx hb dX5_power_8 rfl (lv_at hl 2 rfl) ?_
  refine lv_sipush (v := (-5000)) hx hb dX5_power_9 (by decide) ?_
  refine lv_icmp_lt (tgt := 22) hx hb dX5_power_12 (by decide) (fun c_12 => ?_) (fun c_12 => ?_)
  · skip
    exact absurd c_12 hy1
  · skip
    refine lv_iload_n hx hb dX5_power_15 rfl (lv_at hl 2 rfl) ?_
    refine lv_sipush (v := nI 5000) hx hb dX5_power_16 (by decide) ?_
    refine lv_icmp_le (tgt := 32) hx hb dX5_power_19 (by decide) (fun c_19 => ?_) (fun c_19 => ?_)
    · skip
      refine lv_aload_n hx hb dX5_power_32 rfl (lv_at hl 0 rfl) ?_
      refine lv_iload_n hx hb dX5_power_33 rfl (lv_at hl 1 rfl) ?_
      refine lv_iload_n hx hb dX5_power_34 rfl (lv_at hl 2 rfl) ?_
      refine lv_sipush (v := nI 10007) hx hb dX5_power_35 (by decide) ?_
      refine q_calli hw (q_runS (As := [.int (y9), .int (nI (10007))]) (c_J9_floorMod_7cf53 l G L F_2021 y9) C0 hw sw_X5_117 rfl hl.1 rfl (Nat.le_of_ble_eq_true rfl) dX5_power_38 ⟨by decide, by decide⟩ ⟨by decide, by decide⟩) rfl rfl (fun r_2025 F_2023 H locs hw hp_2024 => ?_)
      obtain ⟨he_2026, o_2027⟩ := hp_2024
      subst he_2026
      refine lv_iload_n hx hb dX5_power_41 rfl (lv_at hl 3 rfl) ?_
      have f_2028 : F_2019 (ad 0) = xO ad := (hp_2020 (ad 0) ).trans fx
      have f_2029 : F_2021 (ad 0) = xO ad := (hp_2022 (ad 0) ).trans f_2028
      have f_2030 : F_2023 (ad 0) = xO ad := (o_2027 (ad 0) ).trans f_2029
      refine q_calli hw (q_runV (As := [.int (nI (f9)), .int (nI ((zi y9).val)), .int (nI (t9))]) (c_X5_repeat l G L F_2023 ad hL hin A f9 t9 (zi y9) (by omega) (by omega) (by omega) (hX.keep (fun i0 hi => ((o_2027 (ad (i0)) )).trans (((hp_2022 (ad (i0)) )).trans ((hp_2020 (ad (i0)) ))))) hA) C0 hw vw_X5_133 ((hL 0 (by omega))) f_2030 rfl rfl rfl hl.1 rfl (Nat.le_of_ble_eq_true rfl) dX5_power_42 ⟨by decide, by decide⟩ ⟨by decide, by decide⟩) rfl rfl (fun r_2033 F_2031 H locs hw hp_2032 => ?_)
      obtain ⟨h_2034, h_2035, h_2036⟩ := hp_2032
      subst h_2034
      exact r_i C0 hr hlk hw (v := (lowR (m_rep (A.1.2.2.2.2.2 (6 + f9)) (zi y9) A.1.1))) rfl ⟨rfl, h_2035, (fun q hq => ((h_2036 q (fun i hS => hq i (by omega))).trans ((o_2027 q ).trans ((hp_2022 q ).trans (hp_2020 q )))))⟩ (Nat.le_refl _) (Nat.le_refl _) dX5_power_45 hQ
    · skip
      exact absurd hy2 c_19
abbrev rm_X5_cut : Room := { frames := 4, cells := 0, slots := 0, locals := 104 }
set_option maxHeartbeats 4000000 in
set_option maxRecDepth 100000 in
theorem c_X5_cut (l : Launch) (G : Gl) (L : List Nat) (F : Nat → va_E) (ad : Nat → Nat) (hL : ∀ i, i < 166 → ad i ∈ L) (hin : ∀ i j, i < 166 → j < 166 → i ≠ j → ad i ≠ ad j) (A : AB) (c9 : Nat) (h1 : 2 ≤ c9) (h2 : c9 ≤ 6) (hX : XW G F ad A) (hA : okA A) : CI l yX5_cut cX5_cut 3 (some .int) rm_X5_cut G L F [.ref (ad 0), .int (nI (c9))] (fun r F1 => r = nI A.1.1 ∧ XW G F1 ad (aSave A (cutS c9 A.1)) ∧ ∀ q, (∀ i, (i < 166) → q ≠ ad i) → F1 q = F q) := by
  obtain ⟨fx, hn, hh, hsn, htx, hrk, ⟨u9, h134⟩, ⟨v9, h150⟩⟩ := hX
  obtain ⟨⟨hc2, hc, hpu, hok⟩, ⟨hh6, hho⟩, hso, hl60, hco⟩ := id hA
  refine CG_of (by decide) (Nat.le_of_ble_eq_true rfl) rfl ?_
  intro p e s m args below meth c Q C0 hr hlk hnm hQ hw ls hl
  have hx := C0.x
  have hb := C0.b
  refine lv_iload_n hx hb dX5_cut_0 rfl (lv_at hl 1 rfl) ?_
  refine lv_iconst (v := nI 2) hx hb dX5_cut_1 (by decide) ?_
  refine n_icmp_lt (tgt := 11) hx hb dX5_cut_2 (by decide) (by omega) (by decide) (fun c_2 => ?_) (fun c_2 => ?_)
  · skip
    exact absurd c_2 (by omega)
  · skip
    refine lv_iload_n hx hb dX5_cut_5 rfl (lv_at hl 1 rfl) ?_
    refine lv_bipush (v := nI 6) hx hb dX5_cut_6 (by decide) ?_
    refine n_icmp_le (tgt := 21) hx hb dX5_cut_8 (by decide) (by omega) (by decide) (fun c_8 => ?_) (fun c_8 => ?_)
    · skip
      refine lv_aload_n hx hb dX5_cut_21 rfl (lv_at hl 0 rfl) ?_
      refine q_get C0 hw ((hL 0 (by omega))) fx fw_X5_19 rfl dX5_cut_22 ?_
      refine lv_aload_n hx hb dX5_cut_25 rfl (lv_at hl 0 rfl) ?_
      refine q_get C0 hw ((hL 0 (by omega))) fx fw_X5_12 rfl dX5_cut_26 ?_
      obtain ⟨_, _, hf_2037, _⟩ := id hh
      refine q_callv hw (q_runV (As := [.ref (ad 22)]) (c_X0_save l G L F ad hL hin A.2.1 A.1 hh hn) C0 hw vw_X5_62 ((hL 1 (by omega))) hf_2037 rfl rfl rfl hl.1 rfl (Nat.le_of_ble_eq_true rfl) dX5_cut_29 ⟨by decide, by decide⟩ ⟨by decide, by decide⟩) rfl rfl (fun F_2038 H locs hw hp_2039 => ?_)
      refine lv_aload_n hx hb dX5_cut_32 rfl (lv_at hl 0 rfl) ?_
      have f_2040 : F_2038 (ad 0) = xO ad := (hp_2039.2 (ad 0) (fun i hS => hin 0 i (by omega) (by omega) (by omega))).trans fx
      refine q_get C0 hw ((hL 0 (by omega))) f_2040 fw_X5_12 rfl dX5_cut_33 ?_
      have f_2041 : F_2038 (ad 22) = .inr (3, [.ref (ad 23), .int (nI (A.1.2.1)), .int (nI (A.1.2.2.1)), .int (nI (A.1.2.2.2.1)), .int (nI (A.1.2.2.2.2.1))]) := (hp_2039.2 (ad 22) (fun i hS => hin 22 i (by omega) (by omega) (by omega))).trans hn.1
      refine q_get C0 hw ((hL 22 (by omega))) f_2041 fw_X5_66 rfl dX5_cut_36 ?_
      have f_2042 : F_2038 (ad 23) = .inr (2, [.int (nI (A.1.1)), .ref (ad 24), .ref (ad 25)]) := (hp_2039.2 (ad 23) (fun i hS => hin 23 i (by omega) (by omega) (by omega))).trans hn.2.1
      refine q_get C0 hw ((hL 23 (by omega))) f_2042 fw_X5_70 rfl dX5_cut_39 ?_
      refine lv_istore_n (lv' := [(2, .int (nI (A.1.1))), (0, .ref (ad 0)), (1, .int (nI (c9)))]) hx hb dX5_cut_42 rfl hl (by decide) rfl (fun ls hl => ?_)
      refine lv_aload_n hx hb dX5_cut_43 rfl (lv_at hl 1 rfl) ?_
      refine q_get C0 hw ((hL 0 (by omega))) f_2040 fw_X5_12 rfl dX5_cut_44 ?_
      refine q_get C0 hw ((hL 22 (by omega))) f_2041 fw_X5_66 rfl dX5_cut_47 ?_
      refine lv_iload_n hx hb dX5_cut_50 rfl (lv_at hl 2 rfl) ?_
      refine q_callv hw (q_runV (As := [.int (nI (c9))]) (c_X2_cutAt l G L F_2038 ad hL hin 22 A.1.1 c9 A.1.2.2.2.2.2 (hn.keep (fun i0 hi => (hp_2039.2 (ad (i0)) (fun i hS => hin (i0) i (by omega) (by omega) (by omega))))).2 (by decide) (by omega)) C0 hw vw_X5_74 ((hL 23 (by omega))) f_2042 rfl rfl rfl hl.1 rfl (Nat.le_of_ble_eq_true rfl) dX5_cut_51 ⟨by decide, by decide⟩ ⟨by decide, by decide⟩) rfl rfl (fun F_2043 H locs hw hp_2044 => ?_)
      have f_2045 : F_2043 (ad 22) = .inr (3, [.ref (ad 23), .int (nI (A.1.2.1)), .int (nI (A.1.2.2.1)), .int (nI (A.1.2.2.2.1)), .int (nI (A.1.2.2.2.2.1))]) := (hp_2044.2 (ad 22) (fun i hS => hin 22 i (by omega) (by omega) (by omega))).trans f_2041
      refine lv_iload_n hx hb dX5_cut_54 rfl (lv_at hl 0 rfl) ?_
      have f_2046 : F_2043 (ad 0) = xO ad := (hp_2044.2 (ad 0) (fun i hS => hin 0 i (by omega) (by omega) (by omega))).trans f_2040
      have f_2047 : F_2038 (ad 134) = rw7 G u9 := (hp_2039.2 (ad 134) (fun i hS => hin 134 i (by omega) (by omega) (by omega))).trans h134
      have f_2048 : F_2043 (ad 134) = rw7 G u9 := (hp_2044.2 (ad 134) (fun i hS => hin 134 i (by omega) (by omega) (by omega))).trans f_2047
      have f_2049 : F_2038 (ad 150) = rw7 G v9 := (hp_2039.2 (ad 150) (fun i hS => hin 150 i (by omega) (by omega) (by omega))).trans h150
      have f_2050 : F_2043 (ad 150) = rw7 G v9 := (hp_2044.2 (ad 150) (fun i hS => hin 150 i (by omega) (by omega) (by omega))).trans f_2049
      exact r_i C0 hr hlk hw (v := nI (A.1.1)) rfl ⟨rfl, ⟨f_2046, ⟨f_2045, hp_2044.1⟩, (hp_2039.1.keep (fun i0 hi => (hp_2044.2 (ad (i0)) (fun i hS => hin (i0) i (by omega) (by omega) (by omega))))), (hsn.keep (fun i0 hi => ((hp_2044.2 (ad (i0)) (fun i hS => hin (i0) i (by omega) (by omega) (by omega)))).trans ((hp_2039.2 (ad (i0)) (fun i hS => hin (i0) i (by omega) (by omega) (by omega)))))), (htx.keep (fun i0 hi => ((hp_2044.2 (ad (i0)) (fun i hS => hin (i0) i (by omega) (by omega) (by omega)))).trans ((hp_2039.2 (ad (i0)) (fun i hS => hin (i0) i (by omega) (by omega) (by omega)))))), (hrk.keep (fun i0 hi => ((hp_2044.2 (ad (i0)) (fun i hS => hin (i0) i (by omega) (by omega) (by omega)))).trans ((hp_2039.2 (ad (i0)) (fun i hS => hin (i0) i (by omega) (by omega) (by omega)))))), ⟨_, f_2048⟩, ⟨_, f_2050⟩⟩, (fun q hq => ((hp_2044.2 q (fun i hS => hq i (by omega))).trans (hp_2039.2 q (fun i hS => hq i (by omega)))))⟩ (Nat.le_refl _) (Nat.le_refl _) dX5_cut_55 hQ
    · skip
      exact absurd c_8 (by omega)
abbrev rm_X5_needPower : Room := { frames := 0, cells := 0, slots := 0, locals := 0 }
set_option maxHeartbeats 4000000 in
set_option maxRecDepth 100000 in
theorem c_X5_needPower (l : Launch) (G : Gl) (L : List Nat) (F : Nat → va_E) (p9 a9 b9 : Nat) (h1 : a9 ≤ p9) (h2 : p9 ≤ b9) (h3 : b9 ≤ 6) : CV l yX5_needPower cX5_needPower 3 none rm_X5_needPower G L F [.int (nI (p9)), .int (nI (a9)), .int (nI (b9))] (fun F1 => ∀ q, F1 q = F q) := by
  refine CG_of (by decide) (Nat.le_of_ble_eq_true rfl) rfl ?_
  intro p e s m args below meth c Q C0 hr hlk hnm hQ hw ls hl
  have hx := C0.x
  have hb := C0.b
  refine lv_iload_n hx hb dX5_needPower_0 rfl (lv_at hl 0 rfl) ?_
  refine lv_iload_n hx hb dX5_needPower_1 rfl (lv_at hl 1 rfl) ?_
  refine n_icmp_lt (tgt := 10) hx hb dX5_needPower_2 (by decide) (by omega) (by omega) (fun c_2 => ?_) (fun c_2 => ?_)
  · skip
    exact absurd c_2 (by omega)
  · skip
    refine lv_iload_n hx hb dX5_needPower_5 rfl (lv_at hl 0 rfl) ?_
    refine lv_iload_n hx hb dX5_needPower_6 rfl (lv_at hl 2 rfl) ?_
    refine n_icmp_le (tgt := 21) hx hb dX5_needPower_7 (by decide) (by omega) (by omega) (fun c_7 => ?_) (fun c_7 => ?_)
    · skip
      exact r_v C0 hr hlk hw (fun q  => rfl) (Nat.le_refl _) (Nat.le_refl _) dX5_needPower_21 hQ
    · skip
      exact absurd c_7 (by omega)
abbrev rm_X5_replace : Room := { frames := 1, cells := 0, slots := 0, locals := 22 }
set_option maxHeartbeats 4000000 in
set_option maxRecDepth 100000 in
theorem c_X5_replace (l : Launch) (G : Gl) (L : List Nat) (F : Nat → va_E) (a p9 : Nat) (y9 : Int32) (u : Nat → ZP) (ma : a ∈ L) (fa : F a = rw7 G u) (hp9 : p9 < 7) : CI l yX5_replace cX5_replace 4 (some .int) rm_X5_replace G L F [.ref a, .int (nI (p9)), .int (y9)] (fun r F1 => r = nI (u p9).val ∧ F1 a = rw7 G (va_up u p9 (zi y9)) ∧ ∀ q, q ≠ a → F1 q = F q) := by
  refine CG_of (by decide) (Nat.le_of_ble_eq_true rfl) rfl ?_
  intro p e s m args below meth c Q C0 hr hlk hnm hQ hw ls hl
  have hx := C0.x
  have hb := C0.b
  refine lv_aload_n hx hb dX5_replace_0 rfl (lv_at hl 0 rfl) ?_
  refine lv_iload_n hx hb dX5_replace_1 rfl (lv_at hl 1 rfl) ?_
  refine q_rld C0 hw ma fa (p9) (by omega) dX5_replace_2 (fun z_2051 => ?_)
  refine lv_istore_n (lv' := [(3, .int (nI ((u (p9)).val))), (0, .ref a), (1, .int (nI (p9))), (2, .int (y9))]) hx hb dX5_replace_3 rfl hl (by decide) rfl (fun ls hl => ?_)
  refine lv_aload_n hx hb dX5_replace_4 rfl (lv_at hl 1 rfl) ?_
  refine lv_iload_n hx hb dX5_replace_5 rfl (lv_at hl 2 rfl) ?_
  refine lv_iload_n hx hb dX5_replace_6 rfl (lv_at hl 3 rfl) ?_
  refine lv_sipush (v := nI 10007) hx hb dX5_replace_7 (by decide) ?_
  refine q_calli hw (q_runS (As := [.int (y9), .int (nI (10007))]) (c_J9_floorMod_7cf53 l G L F y9) C0 hw sw_X5_117 rfl hl.1 rfl (Nat.le_of_ble_eq_true rfl) dX5_replace_10 ⟨by decide, by decide⟩ ⟨by decide, by decide⟩) rfl rfl (fun r_2054 F_2052 H locs hw hp_2053 => ?_)
  obtain ⟨he_2055, o_2056⟩ := hp_2053
  subst he_2055
  have f_2057 : F_2052 a = rw7 G u := (o_2056 a ).trans fa
  refine q_rst C0 hw ma f_2057 (p9) (by omega) (z := zi y9) dX5_replace_13 (fun F_2058 H locs hw f_2059 o_2060 => ?_)
  refine lv_iload_n hx hb dX5_replace_14 rfl (lv_at hl 0 rfl) ?_
  exact r_i C0 hr hlk hw (v := nI ((u (p9)).val)) rfl ⟨rfl, f_2059, (fun q k0 => ((o_2060 q k0).trans (o_2056 q )))⟩ (Nat.le_refl _) (Nat.le_refl _) dX5_replace_15 hQ
abbrev rm_X5_setField : Room := { frames := 4, cells := 0, slots := 0, locals := 104 }
set_option maxHeartbeats 4000000 in
set_option maxRecDepth 100000 in
theorem c_X5_setField (l : Launch) (G : Gl) (L : List Nat) (F : Nat → va_E) (ad : Nat → Nat) (hL : ∀ i, i < 166 → ad i ∈ L) (hin : ∀ i j, i < 166 → j < 166 → i ≠ j → ad i ≠ ad j) (A : AB) (f9 p9 : Nat) (y9 : Int32) (hf9 : f9 < 6) (hp1 : 2 ≤ p9) (hp2 : p9 ≤ A.1.1) (hX : XW G F ad A) (hA : okA A) : CI l yX5_setField cX5_setField 4 (some .int) rm_X5_setField G L F [.ref (ad 0), .int (nI (f9)), .int (nI (p9)), .int (y9)] (fun r F1 => r = nI (A.1.2.2.2.2.2 (f9) p9).val ∧ XW G F1 ad (aSave A (rowS (f9) (va_up (A.1.2.2.2.2.2 (f9)) p9 (zi y9)) A.1)) ∧ ∀ q, (∀ i, (i < 166) → q ≠ ad i) → F1 q = F q) := by
  obtain ⟨fx, hn, hh, hsn, htx, hrk, ⟨u9, h134⟩, ⟨v9, h150⟩⟩ := hX
  obtain ⟨⟨hc2, hc, hpu, hok⟩, ⟨hh6, hho⟩, hso, hl60, hco⟩ := id hA
  refine CG_of (by decide) (Nat.le_of_ble_eq_true rfl) rfl ?_
  intro p e s m args below meth c Q C0 hr hlk hnm hQ hw ls hl
  have hx := C0.x
  have hb := C0.b
  refine lv_iload_n hx hb dX5_setField_0 rfl (lv_at hl 1 rfl) ?_
  refine q_callv hw (q_runS (As := [.int (nI (f9))]) (c_X5_needSlot l G L F f9 (by omega)) C0 hw sw_X5_78 rfl hl.1 rfl (Nat.le_of_ble_eq_true rfl) dX5_setField_1 ⟨by decide, by decide⟩ ⟨by decide, by decide⟩) rfl rfl (fun F_2061 H locs hw hp_2062 => ?_)
  refine lv_iload_n hx hb dX5_setField_4 rfl (lv_at hl 2 rfl) ?_
  refine lv_iconst (v := nI 2) hx hb dX5_setField_5 (by decide) ?_
  refine lv_aload_n hx hb dX5_setField_6 rfl (lv_at hl 0 rfl) ?_
  have f_2063 : F_2061 (ad 0) = xO ad := (hp_2062 (ad 0) ).trans fx
  refine q_get C0 hw ((hL 0 (by omega))) f_2063 fw_X5_12 rfl dX5_setField_7 ?_
  have f_2064 : F_2061 (ad 22) = .inr (3, [.ref (ad 23), .int (nI (A.1.2.1)), .int (nI (A.1.2.2.1)), .int (nI (A.1.2.2.2.1)), .int (nI (A.1.2.2.2.2.1))]) := (hp_2062 (ad 22) ).trans hn.1
  refine q_get C0 hw ((hL 22 (by omega))) f_2064 fw_X5_66 rfl dX5_setField_10 ?_
  have f_2065 : F_2061 (ad 23) = .inr (2, [.int (nI (A.1.1)), .ref (ad 24), .ref (ad 25)]) := (hp_2062 (ad 23) ).trans hn.2.1
  refine q_get C0 hw ((hL 23 (by omega))) f_2065 fw_X5_70 rfl dX5_setField_13 ?_
  refine q_callv hw (q_runS (As := [.int (nI (p9)), .int (nI (2)), .int (nI (A.1.1))]) (c_X5_needPower l G L F_2061 p9 2 A.1.1 (by omega) (by omega) (by omega)) C0 hw sw_X5_81 rfl hl.1 rfl (Nat.le_of_ble_eq_true rfl) dX5_setField_16 ⟨by decide, by decide⟩ ⟨by decide, by decide⟩) rfl rfl (fun F_2066 H locs hw hp_2067 => ?_)
  refine lv_aload_n hx hb dX5_setField_19 rfl (lv_at hl 0 rfl) ?_
  have f_2068 : F_2066 (ad 0) = xO ad := (hp_2067 (ad 0) ).trans f_2063
  refine q_get C0 hw ((hL 0 (by omega))) f_2068 fw_X5_19 rfl dX5_setField_20 ?_
  refine lv_aload_n hx hb dX5_setField_23 rfl (lv_at hl 0 rfl) ?_
  refine q_get C0 hw ((hL 0 (by omega))) f_2068 fw_X5_12 rfl dX5_setField_24 ?_
  obtain ⟨_, _, hf_2069, _⟩ := id (hh.keep (fun i0 hi => ((hp_2067 (ad (i0)) )).trans ((hp_2062 (ad (i0)) ))))
  refine q_callv hw (q_runV (As := [.ref (ad 22)]) (c_X0_save l G L F_2066 ad hL hin A.2.1 A.1 (hh.keep (fun i0 hi => ((hp_2067 (ad (i0)) )).trans ((hp_2062 (ad (i0)) )))) (hn.keep (fun i0 hi => ((hp_2067 (ad (i0)) )).trans ((hp_2062 (ad (i0)) ))))) C0 hw vw_X5_62 ((hL 1 (by omega))) hf_2069 rfl rfl rfl hl.1 rfl (Nat.le_of_ble_eq_true rfl) dX5_setField_27 ⟨by decide, by decide⟩ ⟨by decide, by decide⟩) rfl rfl (fun F_2070 H locs hw hp_2071 => ?_)
  refine lv_aload_n hx hb dX5_setField_30 rfl (lv_at hl 0 rfl) ?_
  have f_2072 : F_2070 (ad 0) = xO ad := (hp_2071.2 (ad 0) (fun i hS => hin 0 i (by omega) (by omega) (by omega))).trans f_2068
  refine q_get C0 hw ((hL 0 (by omega))) f_2072 fw_X5_12 rfl dX5_setField_31 ?_
  have f_2073 : F_2066 (ad 22) = .inr (3, [.ref (ad 23), .int (nI (A.1.2.1)), .int (nI (A.1.2.2.1)), .int (nI (A.1.2.2.2.1)), .int (nI (A.1.2.2.2.2.1))]) := (hp_2067 (ad 22) ).trans f_2064
  have f_2074 : F_2070 (ad 22) = .inr (3, [.ref (ad 23), .int (nI (A.1.2.1)), .int (nI (A.1.2.2.1)), .int (nI (A.1.2.2.2.1)), .int (nI (A.1.2.2.2.2.1))]) := (hp_2071.2 (ad 22) (fun i hS => hin 22 i (by omega) (by omega) (by omega))).trans f_2073
  refine q_get C0 hw ((hL 22 (by omega))) f_2074 fw_X5_66 rfl dX5_setField_34 ?_
  have f_2075 : F_2066 (ad 23) = .inr (2, [.int (nI (A.1.1)), .ref (ad 24), .ref (ad 25)]) := (hp_2067 (ad 23) ).trans f_2065
  have f_2076 : F_2070 (ad 23) = .inr (2, [.int (nI (A.1.1)), .ref (ad 24), .ref (ad 25)]) := (hp_2071.2 (ad 23) (fun i hS => hin 23 i (by omega) (by omega) (by omega))).trans f_2075
  refine q_get C0 hw ((hL 23 (by omega))) f_2076 fw_X5_85 rfl dX5_setField_37 ?_
  refine lv_iload_n hx hb dX5_setField_40 rfl (lv_at hl 1 rfl) ?_
  have f_2077 : F_2061 (ad 24) = oE G (fun i => ad (26 + i)) := (hp_2062 (ad 24) ).trans hn.2.2.1
  have f_2078 : F_2066 (ad 24) = oE G (fun i => ad (26 + i)) := (hp_2067 (ad 24) ).trans f_2077
  have f_2079 : F_2070 (ad 24) = oE G (fun i => ad (26 + i)) := (hp_2071.2 (ad 24) (fun i hS => hin 24 i (by omega) (by omega) (by omega))).trans f_2078
  refine q_aaldi C0 hw ((hL 24 (by omega))) f_2079 (f9) (by omega) (by decide) (b := ad (26 + f9)) rfl dX5_setField_41 ?_
  refine lv_iload_n hx hb dX5_setField_42 rfl (lv_at hl 2 rfl) ?_
  refine lv_iload_n hx hb dX5_setField_43 rfl (lv_at hl 3 rfl) ?_
  have f_2080 : F_2061 (ad (26 + f9)) = rw7 G ((A.1.2.2.2.2.2 f9)) := (hp_2062 (ad (26 + f9)) ).trans ((hn.2.2.2.2 f9 (by omega)))
  have f_2081 : F_2066 (ad (26 + f9)) = rw7 G ((A.1.2.2.2.2.2 f9)) := (hp_2067 (ad (26 + f9)) ).trans f_2080
  have f_2082 : F_2070 (ad (26 + f9)) = rw7 G ((A.1.2.2.2.2.2 f9)) := (hp_2071.2 (ad (26 + f9)) (fun i hS => hin (26 + f9) i (by omega) (by omega) (by omega))).trans f_2081
  refine q_calli hw (q_runS (As := [.ref (ad (26 + f9)), .int (nI (p9)), .int (y9)]) (c_X5_replace l G L F_2070 (ad (26 + f9)) p9 y9 ((A.1.2.2.2.2.2 f9)) ((hL (26 + f9) (by omega))) f_2082 (by omega)) C0 hw sw_X5_89 rfl hl.1 rfl (Nat.le_of_ble_eq_true rfl) dX5_setField_44 ⟨by decide, by decide⟩ ⟨by decide, by decide⟩) rfl rfl (fun r_2085 F_2083 H locs hw hp_2084 => ?_)
  obtain ⟨h_2086, h_2087, h_2088⟩ := hp_2084
  subst h_2086
  have f_2089 : F_2083 (ad 22) = .inr (3, [.ref (ad 23), .int (nI (A.1.2.1)), .int (nI (A.1.2.2.1)), .int (nI (A.1.2.2.2.1)), .int (nI (A.1.2.2.2.2.1))]) := (h_2088 (ad 22) (hin 22 (26 + f9) (by omega) (by omega) (by omega))).trans f_2074
  have f_2090 : F_2083 (ad 0) = xO ad := (h_2088 (ad 0) (hin 0 (26 + f9) (by omega) (by omega) (by omega))).trans f_2072
  have f_2091 : F_2061 (ad 134) = rw7 G u9 := (hp_2062 (ad 134) ).trans h134
  have f_2092 : F_2066 (ad 134) = rw7 G u9 := (hp_2067 (ad 134) ).trans f_2091
  have f_2093 : F_2070 (ad 134) = rw7 G u9 := (hp_2071.2 (ad 134) (fun i hS => hin 134 i (by omega) (by omega) (by omega))).trans f_2092
  have f_2094 : F_2083 (ad 134) = rw7 G u9 := (h_2088 (ad 134) (hin 134 (26 + f9) (by omega) (by omega) (by omega))).trans f_2093
  have f_2095 : F_2061 (ad 150) = rw7 G v9 := (hp_2062 (ad 150) ).trans h150
  have f_2096 : F_2066 (ad 150) = rw7 G v9 := (hp_2067 (ad 150) ).trans f_2095
  have f_2097 : F_2070 (ad 150) = rw7 G v9 := (hp_2071.2 (ad 150) (fun i hS => hin 150 i (by omega) (by omega) (by omega))).trans f_2096
  have f_2098 : F_2083 (ad 150) = rw7 G v9 := (h_2088 (ad 150) (hin 150 (26 + f9) (by omega) (by omega) (by omega))).trans f_2097
  exact r_i C0 hr hlk hw (v := (nI (((A.1.2.2.2.2.2 f9)) p9).val)) rfl ⟨rfl, ⟨f_2090, (sta_row hn (t := (f9)) (u := va_up (A.1.2.2.2.2.2 (f9)) p9 (zi y9)) (st2 := (rowS (f9) (va_up (A.1.2.2.2.2.2 (f9)) p9 (zi y9)) A.1)) (by omega) f_2089 rfl rfl h_2087 (fun i0 hi => ((h_2088 (ad (i0)) (hin (i0) (26 + f9) (by omega) (by omega) (by omega)))).trans (((hp_2071.2 (ad (i0)) (fun i hS => hin (i0) i (by omega) (by omega) (by omega)))).trans (((hp_2067 (ad (i0)) )).trans ((hp_2062 (ad (i0)) )))))), (hp_2071.1.keep (fun i0 hi => (h_2088 (ad (i0)) (hin (i0) (26 + f9) (by omega) (by omega) (by omega))))), (hsn.keep (fun i0 hi => ((h_2088 (ad (i0)) (hin (i0) (26 + f9) (by omega) (by omega) (by omega)))).trans (((hp_2071.2 (ad (i0)) (fun i hS => hin (i0) i (by omega) (by omega) (by omega)))).trans (((hp_2067 (ad (i0)) )).trans ((hp_2062 (ad (i0)) )))))), (htx.keep (fun i0 hi => ((h_2088 (ad (i0)) (hin (i0) (26 + f9) (by omega) (by omega) (by omega)))).trans (((hp_2071.2 (ad (i0)) (fun i hS => hin (i0) i (by omega) (by omega) (by omega)))).trans (((hp_2067 (ad (i0)) )).trans ((hp_2062 (ad (i0)) )))))), (hrk.keep (fun i0 hi => ((h_2088 (ad (i0)) (hin (i0) (26 + f9) (by omega) (by omega) (by omega)))).trans (((hp_2071.2 (ad (i0)) (fun i hS => hin (i0) i (by omega) (by omega) (by omega)))).trans (((hp_2067 (ad (i0)) )).trans ((hp_2062 (ad (i0)) )))))), ⟨_, f_2094⟩, ⟨_, f_2098⟩⟩, (fun q hq => ((h_2088 q (hq (26 + f9) (by omega))).trans ((hp_2071.2 q (fun i hS => hq i (by omega))).trans ((hp_2067 q ).trans (hp_2062 q )))))⟩ (Nat.le_refl _) (Nat.le_refl _) dX5_setField_47 hQ
abbrev rm_X5_setFlow : Room := { frames := 4, cells := 0, slots := 0, locals := 104 }
set_option maxHeartbeats 4000000 in
set_option maxRecDepth 100000 in
theorem c_X5_setFlow (l : Launch) (G : Gl) (L : List Nat) (F : Nat → va_E) (ad : Nat → Nat) (hL : ∀ i, i < 166 → ad i ∈ L) (hin : ∀ i j, i < 166 → j < 166 → i ≠ j → ad i ≠ ad j) (A : AB) (f9 p9 : Nat) (y9 : Int32) (hf9 : f9 < 6) (hp1 : 2 ≤ p9) (hp2 : p9 ≤ A.1.1) (hX : XW G F ad A) (hA : okA A) : CI l yX5_setFlow cX5_setFlow 4 (some .int) rm_X5_setFlow G L F [.ref (ad 0), .int (nI (f9)), .int (nI (p9)), .int (y9)] (fun r F1 => r = nI (A.1.2.2.2.2.2 (6 + f9) p9).val ∧ XW G F1 ad (aSave A (rowS (6 + f9) (va_up (A.1.2.2.2.2.2 (6 + f9)) p9 (zi y9)) A.1)) ∧ ∀ q, (∀ i, (i < 166) → q ≠ ad i) → F1 q = F q) := by
  obtain ⟨fx, hn, hh, hsn, htx, hrk, ⟨u9, h134⟩, ⟨v9, h150⟩⟩ := hX
  obtain ⟨⟨hc2, hc, hpu, hok⟩, ⟨hh6, hho⟩, hso, hl60, hco⟩ := id hA
  refine CG_of (by decide) (Nat.le_of_ble_eq_true rfl) rfl ?_
  intro p e s m args below meth c Q C0 hr hlk hnm hQ hw ls hl
  have hx := C0.x
  have hb := C0.b
  refine lv_iload_n hx hb dX5_setFlow_0 rfl (lv_at hl 1 rfl) ?_
  refine q_callv hw (q_runS (As := [.int (nI (f9))]) (c_X5_needSlot l G L F f9 (by omega)) C0 hw sw_X5_78 rfl hl.1 rfl (Nat.le_of_ble_eq_true rfl) dX5_setFlow_1 ⟨by decide, by decide⟩ ⟨by decide, by decide⟩) rfl rfl (fun F_2099 H locs hw hp_2100 => ?_)
  refine lv_iload_n hx hb dX5_setFlow_4 rfl (lv_at hl 2 rfl) ?_
  refine lv_iconst (v := nI 2) hx hb dX5_setFlow_5 (by decide) ?_
  refine lv_aload_n hx hb dX5_setFlow_6 rfl (lv_at hl 0 rfl) ?_
  have f_2101 : F_2099 (ad 0) = xO ad := (hp_2100 (ad 0) ).trans fx
  refine q_get C0 hw ((hL 0 (by omega))) f_2101 fw_X5_12 rfl dX5_setFlow_7 ?_
  have f_2102 : F_2099 (ad 22) = .inr (3, [.ref (ad 23), .int (nI (A.1.2.1)), .int (nI (A.1.2.2.1)), .int (nI (A.1.2.2.2.1)), .int (nI (A.1.2.2.2.2.1))]) := (hp_2100 (ad 22) ).trans hn.1
  refine q_get C0 hw ((hL 22 (by omega))) f_2102 fw_X5_66 rfl dX5_setFlow_10 ?_
  have f_2103 : F_2099 (ad 23) = .inr (2, [.int (nI (A.1.1)), .ref (ad 24), .ref (ad 25)]) := (hp_2100 (ad 23) ).trans hn.2.1
  refine q_get C0 hw ((hL 23 (by omega))) f_2103 fw_X5_70 rfl dX5_setFlow_13 ?_
  refine q_callv hw (q_runS (As := [.int (nI (p9)), .int (nI (2)), .int (nI (A.1.1))]) (c_X5_needPower l G L F_2099 p9 2 A.1.1 (by omega) (by omega) (by omega)) C0 hw sw_X5_81 rfl hl.1 rfl (Nat.le_of_ble_eq_true rfl) dX5_setFlow_16 ⟨by decide, by decide⟩ ⟨by decide, by decide⟩) rfl rfl (fun F_2104 H locs hw hp_2105 => ?_)
  refine lv_aload_n hx hb dX5_setFlow_19 rfl (lv_at hl 0 rfl) ?_
  have f_2106 : F_2104 (ad 0) = xO ad := (hp_2105 (ad 0) ).trans f_2101
  refine q_get C0 hw ((hL 0 (by omega))) f_2106 fw_X5_19 rfl dX5_setFlow_20 ?_
  refine lv_aload_n hx hb dX5_setFlow_23 rfl (lv_at hl 0 rfl) ?_
  refine q_get C0 hw ((hL 0 (by omega))) f_2106 fw_X5_12 rfl dX5_setFlow_24 ?_
  obtain ⟨_, _, hf_2107, _⟩ := id (hh.keep (fun i0 hi => ((hp_2105 (ad (i0)) )).trans ((hp_2100 (ad (i0)) ))))
  refine q_callv hw (q_runV (As := [.ref (ad 22)]) (c_X0_save l G L F_2104 ad hL hin A.2.1 A.1 (hh.keep (fun i0 hi => ((hp_2105 (ad (i0)) )).trans ((hp_2100 (ad (i0)) )))) (hn.keep (fun i0 hi => ((hp_2105 (ad (i0)) )).trans ((hp_2100 (ad (i0)) ))))) C0 hw vw_X5_62 ((hL 1 (by omega))) hf_2107 rfl rfl rfl hl.1 rfl (Nat.le_of_ble_eq_true rfl) dX5_setFlow_27 ⟨by decide, by decide⟩ ⟨by decide, by decide⟩) rfl rfl (fun F_2108 H locs hw hp_2109 => ?_)
  refine lv_aload_n hx hb dX5_setFlow_30 rfl (lv_at hl 0 rfl) ?_
  have f_2110 : F_2108 (ad 0) = xO ad := (hp_2109.2 (ad 0) (fun i hS => hin 0 i (by omega) (by omega) (by omega))).trans f_2106
  refine q_get C0 hw ((hL 0 (by omega))) f_2110 fw_X5_12 rfl dX5_setFlow_31 ?_
  have f_2111 : F_2104 (ad 22) = .inr (3, [.ref (ad 23), .int (nI (A.1.2.1)), .int (nI (A.1.2.2.1)), .int (nI (A.1.2.2.2.1)), .int (nI (A.1.2.2.2.2.1))]) := (hp_2105 (ad 22) ).trans f_2102
  have f_2112 : F_2108 (ad 22) = .inr (3, [.ref (ad 23), .int (nI (A.1.2.1)), .int (nI (A.1.2.2.1)), .int (nI (A.1.2.2.2.1)), .int (nI (A.1.2.2.2.2.1))]) := (hp_2109.2 (ad 22) (fun i hS => hin 22 i (by omega) (by omega) (by omega))).trans f_2111
  refine q_get C0 hw ((hL 22 (by omega))) f_2112 fw_X5_66 rfl dX5_setFlow_34 ?_
  have f_2113 : F_2104 (ad 23) = .inr (2, [.int (nI (A.1.1)), .ref (ad 24), .ref (ad 25)]) := (hp_2105 (ad 23) ).trans f_2103
  have f_2114 : F_2108 (ad 23) = .inr (2, [.int (nI (A.1.1)), .ref (ad 24), .ref (ad 25)]) := (hp_2109.2 (ad 23) (fun i hS => hin 23 i (by omega) (by omega) (by omega))).trans f_2113
  refine q_get C0 hw ((hL 23 (by omega))) f_2114 fw_X5_93 rfl dX5_setFlow_37 ?_
  refine lv_iload_n hx hb dX5_setFlow_40 rfl (lv_at hl 1 rfl) ?_
  have f_2115 : F_2099 (ad 25) = oE G (fun i => ad (32 + i)) := (hp_2100 (ad 25) ).trans hn.2.2.2.1
  have f_2116 : F_2104 (ad 25) = oE G (fun i => ad (32 + i)) := (hp_2105 (ad 25) ).trans f_2115
  have f_2117 : F_2108 (ad 25) = oE G (fun i => ad (32 + i)) := (hp_2109.2 (ad 25) (fun i hS => hin 25 i (by omega) (by omega) (by omega))).trans f_2116
  refine q_aaldi C0 hw ((hL 25 (by omega))) f_2117 (f9) (by omega) (by decide) (b := ad (32 + f9)) rfl dX5_setFlow_41 ?_
  refine lv_iload_n hx hb dX5_setFlow_42 rfl (lv_at hl 2 rfl) ?_
  refine lv_iload_n hx hb dX5_setFlow_43 rfl (lv_at hl 3 rfl) ?_
  have f_2118 : F_2099 (ad (32 + f9)) = rw7 G ((A.1.2.2.2.2.2 (6 + f9))) := (hp_2100 (ad (32 + f9)) ).trans ((show F (ad (32 + f9)) = _ from by have h9 := hn.2.2.2.2 (6 + f9) (by omega); rwa [show 22 + 4 + (6 + f9) = 32 + f9 by omega] at h9))
  have f_2119 : F_2104 (ad (32 + f9)) = rw7 G ((A.1.2.2.2.2.2 (6 + f9))) := (hp_2105 (ad (32 + f9)) ).trans f_2118
  have f_2120 : F_2108 (ad (32 + f9)) = rw7 G ((A.1.2.2.2.2.2 (6 + f9))) := (hp_2109.2 (ad (32 + f9)) (fun i hS => hin (32 + f9) i (by omega) (by omega) (by omega))).trans f_2119
  refine q_calli hw (q_runS (As := [.ref (ad (32 + f9)), .int (nI (p9)), .int (y9)]) (c_X5_replace l G L F_2108 (ad (32 + f9)) p9 y9 ((A.1.2.2.2.2.2 (6 + f9))) ((hL (32 + f9) (by omega))) f_2120 (by omega)) C0 hw sw_X5_89 rfl hl.1 rfl (Nat.le_of_ble_eq_true rfl) dX5_setFlow_44 ⟨by decide, by decide⟩ ⟨by decide, by decide⟩) rfl rfl (fun r_2123 F_2121 H locs hw hp_2122 => ?_)
  obtain ⟨h_2124, h_2125, h_2126⟩ := hp_2122
  subst h_2124
  have f_2127 : F_2121 (ad (26 + (6 + f9))) = rw7 G (va_up ((A.1.2.2.2.2.2 (6 + f9))) p9 (zi y9)) := by rw [show 26 + (6 + f9) = 32 + f9 by omega]; exact h_2125
  have f_2128 : F_2121 (ad 22) = .inr (3, [.ref (ad 23), .int (nI (A.1.2.1)), .int (nI (A.1.2.2.1)), .int (nI (A.1.2.2.2.1)), .int (nI (A.1.2.2.2.2.1))]) := (h_2126 (ad 22) (hin 22 (32 + f9) (by omega) (by omega) (by omega))).trans f_2112
  have f_2129 : F_2121 (ad 0) = xO ad := (h_2126 (ad 0) (hin 0 (32 + f9) (by omega) (by omega) (by omega))).trans f_2110
  have f_2130 : F_2099 (ad 134) = rw7 G u9 := (hp_2100 (ad 134) ).trans h134
  have f_2131 : F_2104 (ad 134) = rw7 G u9 := (hp_2105 (ad 134) ).trans f_2130
  have f_2132 : F_2108 (ad 134) = rw7 G u9 := (hp_2109.2 (ad 134) (fun i hS => hin 134 i (by omega) (by omega) (by omega))).trans f_2131
  have f_2133 : F_2121 (ad 134) = rw7 G u9 := (h_2126 (ad 134) (hin 134 (32 + f9) (by omega) (by omega) (by omega))).trans f_2132
  have f_2134 : F_2099 (ad 150) = rw7 G v9 := (hp_2100 (ad 150) ).trans h150
  have f_2135 : F_2104 (ad 150) = rw7 G v9 := (hp_2105 (ad 150) ).trans f_2134
  have f_2136 : F_2108 (ad 150) = rw7 G v9 := (hp_2109.2 (ad 150) (fun i hS => hin 150 i (by omega) (by omega) (by omega))).trans f_2135
  have f_2137 : F_2121 (ad 150) = rw7 G v9 := (h_2126 (ad 150) (hin 150 (32 + f9) (by omega) (by omega) (by omega))).trans f_2136
  exact r_i C0 hr hlk hw (v := (nI (((A.1.2.2.2.2.2 (6 + f9))) p9).val)) rfl ⟨rfl, ⟨f_2129, (sta_row hn (t := (6 + f9)) (u := va_up (A.1.2.2.2.2.2 (6 + f9)) p9 (zi y9)) (st2 := (rowS (6 + f9) (va_up (A.1.2.2.2.2.2 (6 + f9)) p9 (zi y9)) A.1)) (by omega) f_2128 rfl rfl f_2127 (fun i0 hi => ((h_2126 (ad (i0)) (hin (i0) (32 + f9) (by omega) (by omega) (by omega)))).trans (((hp_2109.2 (ad (i0)) (fun i hS => hin (i0) i (by omega) (by omega) (by omega)))).trans (((hp_2105 (ad (i0)) )).trans ((hp_2100 (ad (i0)) )))))), (hp_2109.1.keep (fun i0 hi => (h_2126 (ad (i0)) (hin (i0) (32 + f9) (by omega) (by omega) (by omega))))), (hsn.keep (fun i0 hi => ((h_2126 (ad (i0)) (hin (i0) (32 + f9) (by omega) (by omega) (by omega)))).trans (((hp_2109.2 (ad (i0)) (fun i hS => hin (i0) i (by omega) (by omega) (by omega)))).trans (((hp_2105 (ad (i0)) )).trans ((hp_2100 (ad (i0)) )))))), (htx.keep (fun i0 hi => ((h_2126 (ad (i0)) (hin (i0) (32 + f9) (by omega) (by omega) (by omega)))).trans (((hp_2109.2 (ad (i0)) (fun i hS => hin (i0) i (by omega) (by omega) (by omega)))).trans (((hp_2105 (ad (i0)) )).trans ((hp_2100 (ad (i0)) )))))), (hrk.keep (fun i0 hi => ((h_2126 (ad (i0)) (hin (i0) (32 + f9) (by omega) (by omega) (by omega)))).trans (((hp_2109.2 (ad (i0)) (fun i hS => hin (i0) i (by omega) (by omega) (by omega)))).trans (((hp_2105 (ad (i0)) )).trans ((hp_2100 (ad (i0)) )))))), ⟨_, f_2133⟩, ⟨_, f_2137⟩⟩, (fun q hq => ((h_2126 q (hq (32 + f9) (by omega))).trans ((hp_2109.2 q (fun i hS => hq i (by omega))).trans ((hp_2105 q ).trans (hp_2100 q )))))⟩ (Nat.le_refl _) (Nat.le_refl _) dX5_setFlow_47 hQ
abbrev rm_X5_earn : Room := { frames := 4, cells := 0, slots := 0, locals := 104 }
set_option maxHeartbeats 4000000 in
set_option maxRecDepth 100000 in
theorem c_X5_earn (l : Launch) (G : Gl) (L : List Nat) (F : Nat → va_E) (ad : Nat → Nat) (hL : ∀ i, i < 166 → ad i ∈ L) (hin : ∀ i j, i < 166 → j < 166 → i ≠ j → ad i ≠ ad j) (A : AB) (m9 : Nat) (h1 : 1 ≤ m9) (h2 : m9 ≤ 1000) (h3 : A.1.2.1 + m9 ≤ 100000) (hX : XW G F ad A) (hA : okA A) : CI l yX5_earn cX5_earn 2 (some .int) rm_X5_earn G L F [.ref (ad 0), .int (nI (m9))] (fun r F1 => r = nI (A.1.2.1 + m9) ∧ XW G F1 ad (aSave A (earnS m9 A.1)) ∧ ∀ q, (∀ i, (i < 166) → q ≠ ad i) → F1 q = F q) := by
  obtain ⟨fx, hn, hh, hsn, htx, hrk, ⟨u9, h134⟩, ⟨v9, h150⟩⟩ := hX
  obtain ⟨⟨hc2, hc, hpu, hok⟩, ⟨hh6, hho⟩, hso, hl60, hco⟩ := id hA
  refine CG_of (by decide) (Nat.le_of_ble_eq_true rfl) rfl ?_
  intro p e s m args below meth c Q C0 hr hlk hnm hQ hw ls hl
  have hx := C0.x
  have hb := C0.b
  refine lv_iload_n hx hb dX5_earn_0 rfl (lv_at hl 1 rfl) ?_
  refine lv_iconst (v := nI 1) hx hb dX5_earn_1 (by decide) ?_
  refine n_icmp_lt (tgt := 12) hx hb dX5_earn_2 (by decide) (by omega) (by decide) (fun c_2 => ?_) (fun c_2 => ?_)
  · skip
    exact absurd c_2 (by omega)
  · skip
    refine lv_iload_n hx hb dX5_earn_5 rfl (lv_at hl 1 rfl) ?_
    refine lv_sipush (v := nI 1000) hx hb dX5_earn_6 (by decide) ?_
    refine n_icmp_le (tgt := 22) hx hb dX5_earn_9 (by decide) (by omega) (by decide) (fun c_9 => ?_) (fun c_9 => ?_)
    · skip
      refine lv_aload_n hx hb dX5_earn_22 rfl (lv_at hl 0 rfl) ?_
      refine q_get C0 hw ((hL 0 (by omega))) fx fw_X5_12 rfl dX5_earn_23 ?_
      refine q_get C0 hw ((hL 22 (by omega))) hn.1 fw_X5_98 rfl dX5_earn_26 ?_
      refine lv_ldc (v := nI (100000)) hx hb C0.ow (C0.ts _ kw_X5_101) dX5_earn_29 ?_
      refine lv_iload_n hx hb dX5_earn_31 rfl (lv_at hl 1 rfl) ?_
      refine n_isub hx hb (by omega) dX5_earn_32 ?_
      refine n_icmp_le (tgt := 46) hx hb dX5_earn_33 (by decide) (by omega) (by omega) (fun c_33 => ?_) (fun c_33 => ?_)
      · skip
        refine lv_aload_n hx hb dX5_earn_46 rfl (lv_at hl 0 rfl) ?_
        refine q_get C0 hw ((hL 0 (by omega))) fx fw_X5_19 rfl dX5_earn_47 ?_
        refine lv_aload_n hx hb dX5_earn_50 rfl (lv_at hl 0 rfl) ?_
        refine q_get C0 hw ((hL 0 (by omega))) fx fw_X5_12 rfl dX5_earn_51 ?_
        obtain ⟨_, _, hf_2138, _⟩ := id hh
        refine q_callv hw (q_runV (As := [.ref (ad 22)]) (c_X0_save l G L F ad hL hin A.2.1 A.1 hh hn) C0 hw vw_X5_62 ((hL 1 (by omega))) hf_2138 rfl rfl rfl hl.1 rfl (Nat.le_of_ble_eq_true rfl) dX5_earn_54 ⟨by decide, by decide⟩ ⟨by decide, by decide⟩) rfl rfl (fun F_2139 H locs hw hp_2140 => ?_)
        refine lv_aload_n hx hb dX5_earn_57 rfl (lv_at hl 0 rfl) ?_
        have f_2141 : F_2139 (ad 0) = xO ad := (hp_2140.2 (ad 0) (fun i hS => hin 0 i (by omega) (by omega) (by omega))).trans fx
        refine q_get C0 hw ((hL 0 (by omega))) f_2141 fw_X5_12 rfl dX5_earn_58 ?_
        refine lv_dup hx hb dX5_earn_61 rfl ?_
        have f_2142 : F_2139 (ad 22) = .inr (3, [.ref (ad 23), .int (nI (A.1.2.1)), .int (nI (A.1.2.2.1)), .int (nI (A.1.2.2.2.1)), .int (nI (A.1.2.2.2.2.1))]) := (hp_2140.2 (ad 22) (fun i hS => hin 22 i (by omega) (by omega) (by omega))).trans hn.1
        refine q_get C0 hw ((hL 22 (by omega))) f_2142 fw_X5_98 rfl dX5_earn_62 ?_
        refine lv_iload_n hx hb dX5_earn_65 rfl (lv_at hl 1 rfl) ?_
        refine n_iadd hx hb dX5_earn_66 ?_
        refine q_put C0 hw ((hL 22 (by omega))) f_2142 fw_X5_98 pw_X3_1 rfl rfl rfl (Nat.le_of_ble_eq_true rfl) dX5_earn_67 (fun F_2143 H locs hw f_2144 o_2145 => ?_)
        have f_2144 : F_2143 (ad 22) = .inr (3, [.ref (ad 23), .int (nI (A.1.2.1 + m9)), .int (nI (A.1.2.2.1)), .int (nI (A.1.2.2.2.1)), .int (nI (A.1.2.2.2.2.1))]) := f_2144
        refine lv_aload_n hx hb dX5_earn_70 rfl (lv_at hl 0 rfl) ?_
        have f_2146 : F_2143 (ad 0) = xO ad := (o_2145 (ad 0) (hin 0 22 (by omega) (by omega) (by omega))).trans f_2141
        refine q_get C0 hw ((hL 0 (by omega))) f_2146 fw_X5_12 rfl dX5_earn_71 ?_
        refine q_get C0 hw ((hL 22 (by omega))) f_2144 fw_X5_98 rfl dX5_earn_74 ?_
        have f_2147 : F_2139 (ad 134) = rw7 G u9 := (hp_2140.2 (ad 134) (fun i hS => hin 134 i (by omega) (by omega) (by omega))).trans h134
        have f_2148 : F_2143 (ad 134) = rw7 G u9 := (o_2145 (ad 134) (hin 134 22 (by omega) (by omega) (by omega))).trans f_2147
        have f_2149 : F_2139 (ad 150) = rw7 G v9 := (hp_2140.2 (ad 150) (fun i hS => hin 150 i (by omega) (by omega) (by omega))).trans h150
        have f_2150 : F_2143 (ad 150) = rw7 G v9 := (o_2145 (ad 150) (hin 150 22 (by omega) (by omega) (by omega))).trans f_2149
        exact r_i C0 hr hlk hw (v := nI (A.1.2.1 + m9)) rfl ⟨rfl, ⟨f_2146, ⟨f_2144, hn.2.keep (fun i0 hi => ((o_2145 (ad (i0)) (hin (i0) 22 (by omega) (by omega) (by omega)))).trans ((hp_2140.2 (ad (i0)) (fun i hS => hin (i0) i (by omega) (by omega) (by omega)))))⟩, (hp_2140.1.keep (fun i0 hi => (o_2145 (ad (i0)) (hin (i0) 22 (by omega) (by omega) (by omega))))), (hsn.keep (fun i0 hi => ((o_2145 (ad (i0)) (hin (i0) 22 (by omega) (by omega) (by omega)))).trans ((hp_2140.2 (ad (i0)) (fun i hS => hin (i0) i (by omega) (by omega) (by omega)))))), (htx.keep (fun i0 hi => ((o_2145 (ad (i0)) (hin (i0) 22 (by omega) (by omega) (by omega)))).trans ((hp_2140.2 (ad (i0)) (fun i hS => hin (i0) i (by omega) (by omega) (by omega)))))), (hrk.keep (fun i0 hi => ((o_2145 (ad (i0)) (hin (i0) 22 (by omega) (by omega) (by omega)))).trans ((hp_2140.2 (ad (i0)) (fun i hS => hin (i0) i (by omega) (by omega) (by omega)))))), ⟨_, f_2148⟩, ⟨_, f_2150⟩⟩, (fun q hq => ((o_2145 q (hq 22 (by omega))).trans (hp_2140.2 q (fun i hS => hq i (by omega)))))⟩ (Nat.le_refl _) (Nat.le_refl _) dX5_earn_77 hQ
      · skip
        exact absurd c_33 (by omega)
    · skip
      exact absurd c_9 (by omega)
