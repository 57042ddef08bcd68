/-! the law's cases, one by one -/
section LAWC
variable {o : gOm} {γ : gCx} {cells slots : Nat} {σ : gSt} {rt : Option FieldType} {pst : Option Value → gSt → Prop} {bs L i : Nat} {xs : Nat → Int32} {b : Bool}
theorem lk_28 (X : gX o γ cL_law_ 8 RL) (Y : gE o γ 2048 601024 7293033 116 rt pst) (S : gScr o γ bs L xs) (hst : γ.2.1.stackTraces = false) (hI : Inv b σ) (hi : i + 6 ≤ L) (hL : L ≤ 3072) (hc : cells + 5 ≤ 601024) (hs : slots + 30 ≤ 7293033) (K : lwK o γ bs i cells slots) : G o γ cells slots 116 σ 1888 [some (.ref bs), some (.ref (ad o 0)), some (.ref (ad o 65)), some (.ref (ad o 115)), some (.int (nI i)), none, none, none] [] := by
  have hR := hI.1
  have h := op_all hI 
  unfold OKM at h
  refine g_aload_1 (pc := 1888) X dL_law__1888 ?_
  refine g_callV_L (pc := 1889) X Y dL_law__1889 miX11_all li_L_219 (t_X11_all hR h) rfl (by decide) rfl ⟨_, rfl⟩ rfl ⟨Nat.le_of_ble_eq_true rfl, Nat.le_of_ble_eq_true rfl⟩ (by omega) (by omega) rfl (by exact Nat.le_of_ble_eq_true rfl) (fun v s hp => ?_)
  obtain ⟨hR, h⟩ := hp
  refine g_aload_2 (pc := 1892) X dL_law__1892 ?_
  refine g_callV_L (pc := 1893) X Y dL_law__1893 miX12_all li_L_222 (t_X12_all hR h) rfl (by decide) rfl ⟨_, rfl⟩ rfl ⟨Nat.le_of_ble_eq_true rfl, Nat.le_of_ble_eq_true rfl⟩ (by omega) (by omega) rfl (by exact Nat.le_of_ble_eq_true rfl) (fun w t hp => ?_)
  obtain ⟨hR2, e, hI2⟩ := hp
  subst e
  have fin : G o γ cells slots 116 t 2484 [some (.ref bs), some (.ref (ad o 0)), some (.ref (ad o 65)), some (.ref (ad o 115)), some (.int (nI i)), none, none, none] [] := g_widen (k1 := cells + 5) (k2 := slots + 30) (by omega) (by omega) (K t hI2)
  exact g_lcmp_eq (pc := 1896) X dL_law__1896 dL_law__1897 (tgt := 2484) (by decide) (fun _ => fin) (fun q => absurd rfl q)
theorem lk_29 (X : gX o γ cL_law_ 8 RL) (Y : gE o γ 2048 601024 7293033 116 rt pst) (S : gScr o γ bs L xs) (hst : γ.2.1.stackTraces = false) (hI : Inv b σ) (hi : i + 6 ≤ L) (hL : L ≤ 3072) (hc : cells + 5 ≤ 601024) (hs : slots + 30 ≤ 7293033) (K : lwK o γ bs i cells slots) : G o γ cells slots 116 σ 1902 [some (.ref bs), some (.ref (ad o 0)), some (.ref (ad o 65)), some (.ref (ad o 115)), some (.int (nI i)), none, none, none] [] := by
  have hR := hI.1
  have h := op_take hI 
  unfold OKN at h
  refine g_aload_1 (pc := 1902) X dL_law__1902 ?_
  refine g_callV_I (pc := 1903) X Y dL_law__1903 miX11_take li_L_223 (t_X11_take hR h) rfl (by decide) rfl ⟨_, rfl⟩ rfl ⟨Nat.le_of_ble_eq_true rfl, Nat.le_of_ble_eq_true rfl⟩ (by omega) (by omega) rfl (by exact Nat.le_of_ble_eq_true rfl) (fun v s hp => ?_)
  obtain ⟨hR, h⟩ := hp
  refine g_aload_2 (pc := 1906) X dL_law__1906 ?_
  refine g_callV_I (pc := 1907) X Y dL_law__1907 miX12_take li_L_226 (t_X12_take hR h) rfl (by decide) rfl ⟨_, rfl⟩ rfl ⟨Nat.le_of_ble_eq_true rfl, Nat.le_of_ble_eq_true rfl⟩ (by omega) (by omega) rfl (by exact Nat.le_of_ble_eq_true rfl) (fun w t hp => ?_)
  obtain ⟨hR2, e, hI2⟩ := hp
  subst e
  have fin : G o γ cells slots 116 t 2484 [some (.ref bs), some (.ref (ad o 0)), some (.ref (ad o 65)), some (.ref (ad o 115)), some (.int (nI i)), none, none, none] [] := g_widen (k1 := cells + 5) (k2 := slots + 30) (by omega) (by omega) (K t hI2)
  exact g_icmp_eq (pc := 1910) X dL_law__1910 (tgt := 2484) (by decide) (fun _ => fin) (fun q => absurd rfl q)
theorem lk_30 (X : gX o γ cL_law_ 8 RL) (Y : gE o γ 2048 601024 7293033 116 rt pst) (S : gScr o γ bs L xs) (hst : γ.2.1.stackTraces = false) (hI : Inv b σ) (hi : i + 6 ≤ L) (hL : L ≤ 3072) (hc : cells + 5 ≤ 601024) (hs : slots + 30 ≤ 7293033) (K : lwK o γ bs i cells slots) : G o γ cells slots 116 σ 1915 [some (.ref bs), some (.ref (ad o 0)), some (.ref (ad o 65)), some (.ref (ad o 115)), some (.int (nI i)), none, none, none] [] := by
  refine g_aload_1 (pc := 1915) X dL_law__1915 ?_
  refine g_arg (pc := 1916) (k := 1) X S dL_law__1916 dL_law__1917 dL_law__1919 dL_law__1920 dL_law__1921 kiconst_1 (by omega) (by omega) hL ?_
  refine g_arg (pc := 1922) (k := 2) X S dL_law__1922 dL_law__1923 dL_law__1925 dL_law__1926 dL_law__1927 kiconst_2 (by omega) (by omega) hL ?_
  refine g_aload_3 (pc := 1928) X dL_law__1928 ?_
  refine g_callSW (pc := 1929) X Y dL_law__1929 mwL_always li_L_227 (lL_always hst hI (xs (i + 1)) (xs (i + 2))) rfl ⟨Nat.le_of_ble_eq_true rfl, Nat.le_of_ble_eq_true rfl⟩ ⟨by omega, by omega⟩ (by exact Nat.le_of_ble_eq_true rfl) rfl (fun k s hp => ?_)
  obtain ⟨⟨b2, hR⟩, h⟩ := hp
  refine g_istore_5 (pc := 1932) X dL_law__1932 (by decide) rfl ?_
  refine g_aload_2 (pc := 1934) X dL_law__1934 ?_
  refine g_arg (pc := 1935) (k := 1) X S dL_law__1935 dL_law__1936 dL_law__1938 dL_law__1939 dL_law__1940 kiconst_1 (by omega) (by omega) hL ?_
  refine g_arg (pc := 1941) (k := 2) X S dL_law__1941 dL_law__1942 dL_law__1944 dL_law__1945 dL_law__1946 kiconst_2 (by omega) (by omega) hL ?_
  refine g_callV_I (pc := 1947) X Y dL_law__1947 miX12_always li_L_229 (t_X12_always hR h) rfl (by decide) rfl ⟨_, rfl⟩ rfl ⟨Nat.le_of_ble_eq_true rfl, Nat.le_of_ble_eq_true rfl⟩ (by omega) (by omega) rfl (by exact Nat.le_of_ble_eq_true rfl) (fun w t hp => ?_)
  obtain ⟨hR2, h0, hv, hI2⟩ := hp
  refine g_istore_6 (pc := 1950) X dL_law__1950 (by decide) rfl ?_
  refine g_aload_2 (pc := 1952) X dL_law__1952 ?_
  refine g_callV_I (pc := 1953) X Y dL_law__1953 miX12_thrown li_L_122 (t_X12_thrown hR2 (Q := fun x => x = t.1 65 0) rfl) rfl (by decide) rfl ⟨_, rfl⟩ rfl ⟨Nat.le_of_ble_eq_true rfl, Nat.le_of_ble_eq_true rfl⟩ (by omega) (by omega) rfl (by exact Nat.le_of_ble_eq_true rfl) (fun x s9 hp => ?_)
  obtain ⟨rfl, rfl⟩ := hp
  refine g_iload_5 (pc := 1956) X dL_law__1956 ?_
  refine g_icmp_eq (pc := 1958) X dL_law__1958 (tgt := 1963) (by decide) (fun _ => ?_) (fun q => absurd h0 q)
  refine g_iload_5 (pc := 1963) X dL_law__1963 ?_
  have fin : G o γ (cells + 3) (slots + 18) 116 t 1980 [some (.ref bs), some (.ref (ad o 0)), some (.ref (ad o 65)), some (.ref (ad o 115)), some (.int (nI i)), some (.int k), some (.int w), none] [] := by
    refine g_goto (pc := 1980) X dL_law__1980 (tgt := 2484) (by decide) ?_
    refine g_widen (k1 := cells + 5) (k2 := slots + 30) (by omega) (by omega) ?_
    exact g_drop (by simp [lsub]) (K t hI2)
  refine g_if_ne (pc := 1965) X dL_law__1965 (tgt := 1980) (by decide) (fun _ => fin) (fun q => ?_)
  have q0 : k = 0 := by simpa using q
  refine g_aload_3 (pc := 1968) X dL_law__1968 ?_
  refine g_iconst (pc := 1969) X dL_law__1969 kiconst_0 ?_
  refine g_laload_n (pc := 1970) (a := 0) X dL_law__1970 rfl (by decide) rfl (by decide) ?_
  rw [hv q0]
  refine g_iload_6 (pc := 1971) X dL_law__1971 ?_
  refine g_i2l (pc := 1973) X dL_law__1973 ?_
  exact g_lcmp_eq (pc := 1974) X dL_law__1974 dL_law__1975 (tgt := 1980) (by decide) (fun _ => fin) (fun q => absurd rfl q)
theorem lk_31 (X : gX o γ cL_law_ 8 RL) (Y : gE o γ 2048 601024 7293033 116 rt pst) (S : gScr o γ bs L xs) (hst : γ.2.1.stackTraces = false) (hI : Inv b σ) (hi : i + 6 ≤ L) (hL : L ≤ 3072) (hc : cells + 5 ≤ 601024) (hs : slots + 30 ≤ 7293033) (K : lwK o γ bs i cells slots) : G o γ cells slots 116 σ 1983 [some (.ref bs), some (.ref (ad o 0)), some (.ref (ad o 65)), some (.ref (ad o 115)), some (.int (nI i)), none, none, none] [] := by
  refine g_aload_1 (pc := 1983) X dL_law__1983 ?_
  refine g_arg (pc := 1984) (k := 1) X S dL_law__1984 dL_law__1985 dL_law__1987 dL_law__1988 dL_law__1989 kiconst_1 (by omega) (by omega) hL ?_
  refine g_arg (pc := 1990) (k := 2) X S dL_law__1990 dL_law__1991 dL_law__1993 dL_law__1994 dL_law__1995 kiconst_2 (by omega) (by omega) hL ?_
  refine g_aload_3 (pc := 1996) X dL_law__1996 ?_
  refine g_callSW (pc := 1997) X Y dL_law__1997 mwL_edge li_L_230 (lL_edge hst hI (xs (i + 1)) (xs (i + 2))) rfl ⟨Nat.le_of_ble_eq_true rfl, Nat.le_of_ble_eq_true rfl⟩ ⟨by omega, by omega⟩ (by exact Nat.le_of_ble_eq_true rfl) rfl (fun k s hp => ?_)
  obtain ⟨⟨b2, hR⟩, h⟩ := hp
  refine g_istore_5 (pc := 2000) X dL_law__2000 (by decide) rfl ?_
  refine g_aload_2 (pc := 2002) X dL_law__2002 ?_
  refine g_arg (pc := 2003) (k := 1) X S dL_law__2003 dL_law__2004 dL_law__2006 dL_law__2007 dL_law__2008 kiconst_1 (by omega) (by omega) hL ?_
  refine g_arg (pc := 2009) (k := 2) X S dL_law__2009 dL_law__2010 dL_law__2012 dL_law__2013 dL_law__2014 kiconst_2 (by omega) (by omega) hL ?_
  refine g_callV_L (pc := 2015) X Y dL_law__2015 miX12_edge li_L_232 (t_X12_edge hR h) rfl (by decide) rfl ⟨_, rfl⟩ rfl ⟨Nat.le_of_ble_eq_true rfl, Nat.le_of_ble_eq_true rfl⟩ (by omega) (by omega) rfl (by exact Nat.le_of_ble_eq_true rfl) (fun w t hp => ?_)
  obtain ⟨hR2, h0, hv, hI2⟩ := hp
  refine g_lstore_6 (pc := 2018) X dL_law__2018 (by decide) rfl ?_
  refine g_aload_2 (pc := 2020) X dL_law__2020 ?_
  refine g_callV_I (pc := 2021) X Y dL_law__2021 miX12_thrown li_L_122 (t_X12_thrown hR2 (Q := fun x => x = t.1 65 0) rfl) rfl (by decide) rfl ⟨_, rfl⟩ rfl ⟨Nat.le_of_ble_eq_true rfl, Nat.le_of_ble_eq_true rfl⟩ (by omega) (by omega) rfl (by exact Nat.le_of_ble_eq_true rfl) (fun x s9 hp => ?_)
  obtain ⟨rfl, rfl⟩ := hp
  refine g_iload_5 (pc := 2024) X dL_law__2024 ?_
  refine g_icmp_eq (pc := 2026) X dL_law__2026 (tgt := 2031) (by decide) (fun _ => ?_) (fun q => absurd h0 q)
  refine g_iload_5 (pc := 2031) X dL_law__2031 ?_
  have fin : G o γ (cells + 3) (slots + 18) 116 t 2047 [some (.ref bs), some (.ref (ad o 0)), some (.ref (ad o 65)), some (.ref (ad o 115)), some (.int (nI i)), some (.int k), some (.long w), none] [] := by
    refine g_goto (pc := 2047) X dL_law__2047 (tgt := 2484) (by decide) ?_
    refine g_widen (k1 := cells + 5) (k2 := slots + 30) (by omega) (by omega) ?_
    exact g_drop (by simp [lsub]) (K t hI2)
  refine g_if_ne (pc := 2033) X dL_law__2033 (tgt := 2047) (by decide) (fun _ => fin) (fun q => ?_)
  have q0 : k = 0 := by simpa using q
  refine g_aload_3 (pc := 2036) X dL_law__2036 ?_
  refine g_iconst (pc := 2037) X dL_law__2037 kiconst_0 ?_
  refine g_laload_n (pc := 2038) (a := 0) X dL_law__2038 rfl (by decide) rfl (by decide) ?_
  rw [hv q0]
  refine g_lload_6 (pc := 2039) X dL_law__2039 ?_
  exact g_lcmp_eq (pc := 2041) X dL_law__2041 dL_law__2042 (tgt := 2047) (by decide) (fun _ => fin) (fun q => absurd rfl q)
theorem lk_32 (X : gX o γ cL_law_ 8 RL) (Y : gE o γ 2048 601024 7293033 116 rt pst) (S : gScr o γ bs L xs) (hst : γ.2.1.stackTraces = false) (hI : Inv b σ) (hi : i + 6 ≤ L) (hL : L ≤ 3072) (hc : cells + 5 ≤ 601024) (hs : slots + 30 ≤ 7293033) (K : lwK o γ bs i cells slots) : G o γ cells slots 116 σ 2050 [some (.ref bs), some (.ref (ad o 0)), some (.ref (ad o 65)), some (.ref (ad o 115)), some (.int (nI i)), none, none, none] [] := by
  refine g_aload_1 (pc := 2050) X dL_law__2050 ?_
  refine g_arg (pc := 2051) (k := 1) X S dL_law__2051 dL_law__2052 dL_law__2054 dL_law__2055 dL_law__2056 kiconst_1 (by omega) (by omega) hL ?_
  refine g_arg (pc := 2057) (k := 2) X S dL_law__2057 dL_law__2058 dL_law__2060 dL_law__2061 dL_law__2062 kiconst_2 (by omega) (by omega) hL ?_
  refine g_arg (pc := 2063) (k := 3) X S dL_law__2063 dL_law__2064 dL_law__2066 dL_law__2067 dL_law__2068 kiconst_3 (by omega) (by omega) hL ?_
  refine g_aload_3 (pc := 2069) X dL_law__2069 ?_
  refine g_callSW (pc := 2070) X Y dL_law__2070 mwL_holds li_L_233 (lL_holds hst hI (xs (i + 1)) (xs (i + 2)) (xs (i + 3))) rfl ⟨Nat.le_of_ble_eq_true rfl, Nat.le_of_ble_eq_true rfl⟩ ⟨by omega, by omega⟩ (by exact Nat.le_of_ble_eq_true rfl) rfl (fun k s hp => ?_)
  obtain ⟨⟨b2, hR⟩, h⟩ := hp
  refine g_istore_5 (pc := 2073) X dL_law__2073 (by decide) rfl ?_
  refine g_aload_2 (pc := 2075) X dL_law__2075 ?_
  refine g_arg (pc := 2076) (k := 1) X S dL_law__2076 dL_law__2077 dL_law__2079 dL_law__2080 dL_law__2081 kiconst_1 (by omega) (by omega) hL ?_
  refine g_arg (pc := 2082) (k := 2) X S dL_law__2082 dL_law__2083 dL_law__2085 dL_law__2086 dL_law__2087 kiconst_2 (by omega) (by omega) hL ?_
  refine g_arg (pc := 2088) (k := 3) X S dL_law__2088 dL_law__2089 dL_law__2091 dL_law__2092 dL_law__2093 kiconst_3 (by omega) (by omega) hL ?_
  refine g_callV_I (pc := 2094) X Y dL_law__2094 miX12_holds li_L_235 (t_X12_holds hR h) rfl (by decide) rfl ⟨_, rfl⟩ rfl ⟨Nat.le_of_ble_eq_true rfl, Nat.le_of_ble_eq_true rfl⟩ (by omega) (by omega) rfl (by exact Nat.le_of_ble_eq_true rfl) (fun w t hp => ?_)
  obtain ⟨hR2, h0, hv, hI2⟩ := hp
  refine g_istore_6 (pc := 2097) X dL_law__2097 (by decide) rfl ?_
  refine g_aload_2 (pc := 2099) X dL_law__2099 ?_
  refine g_callV_I (pc := 2100) X Y dL_law__2100 miX12_thrown li_L_122 (t_X12_thrown hR2 (Q := fun x => x = t.1 65 0) rfl) rfl (by decide) rfl ⟨_, rfl⟩ rfl ⟨Nat.le_of_ble_eq_true rfl, Nat.le_of_ble_eq_true rfl⟩ (by omega) (by omega) rfl (by exact Nat.le_of_ble_eq_true rfl) (fun x s9 hp => ?_)
  obtain ⟨rfl, rfl⟩ := hp
  refine g_iload_5 (pc := 2103) X dL_law__2103 ?_
  refine g_icmp_eq (pc := 2105) X dL_law__2105 (tgt := 2110) (by decide) (fun _ => ?_) (fun q => absurd h0 q)
  refine g_iload_5 (pc := 2110) X dL_law__2110 ?_
  have fin : G o γ (cells + 4) (slots + 24) 116 t 2127 [some (.ref bs), some (.ref (ad o 0)), some (.ref (ad o 65)), some (.ref (ad o 115)), some (.int (nI i)), some (.int k), some (.int w), none] [] := by
    refine g_goto (pc := 2127) X dL_law__2127 (tgt := 2484) (by decide) ?_
    refine g_widen (k1 := cells + 5) (k2 := slots + 30) (by omega) (by omega) ?_
    exact g_drop (by simp [lsub]) (K t hI2)
  refine g_if_ne (pc := 2112) X dL_law__2112 (tgt := 2127) (by decide) (fun _ => fin) (fun q => ?_)
  have q0 : k = 0 := by simpa using q
  refine g_aload_3 (pc := 2115) X dL_law__2115 ?_
  refine g_iconst (pc := 2116) X dL_law__2116 kiconst_0 ?_
  refine g_laload_n (pc := 2117) (a := 0) X dL_law__2117 rfl (by decide) rfl (by decide) ?_
  rw [hv q0]
  refine g_iload_6 (pc := 2118) X dL_law__2118 ?_
  refine g_i2l (pc := 2120) X dL_law__2120 ?_
  exact g_lcmp_eq (pc := 2121) X dL_law__2121 dL_law__2122 (tgt := 2127) (by decide) (fun _ => fin) (fun q => absurd rfl q)
theorem lk_33 (X : gX o γ cL_law_ 8 RL) (Y : gE o γ 2048 601024 7293033 116 rt pst) (S : gScr o γ bs L xs) (hst : γ.2.1.stackTraces = false) (hI : Inv b σ) (hi : i + 6 ≤ L) (hL : L ≤ 3072) (hc : cells + 5 ≤ 601024) (hs : slots + 30 ≤ 7293033) (K : lwK o γ bs i cells slots) : G o γ cells slots 116 σ 2130 [some (.ref bs), some (.ref (ad o 0)), some (.ref (ad o 65)), some (.ref (ad o 115)), some (.int (nI i)), none, none, none] [] := by
  refine g_aload_1 (pc := 2130) X dL_law__2130 ?_
  refine g_arg (pc := 2131) (k := 1) X S dL_law__2131 dL_law__2132 dL_law__2134 dL_law__2135 dL_law__2136 kiconst_1 (by omega) (by omega) hL ?_
  refine g_aload_3 (pc := 2137) X dL_law__2137 ?_
  refine g_callSW (pc := 2138) X Y dL_law__2138 mwL_asked li_L_236 (lL_asked hst hI (xs (i + 1))) rfl ⟨Nat.le_of_ble_eq_true rfl, Nat.le_of_ble_eq_true rfl⟩ ⟨by omega, by omega⟩ (by exact Nat.le_of_ble_eq_true rfl) rfl (fun k s hp => ?_)
  obtain ⟨⟨b2, hR⟩, h⟩ := hp
  refine g_istore_5 (pc := 2141) X dL_law__2141 (by decide) rfl ?_
  refine g_aload_2 (pc := 2143) X dL_law__2143 ?_
  refine g_arg (pc := 2144) (k := 1) X S dL_law__2144 dL_law__2145 dL_law__2147 dL_law__2148 dL_law__2149 kiconst_1 (by omega) (by omega) hL ?_
  refine g_callV_I (pc := 2150) X Y dL_law__2150 miX12_asked_ li_L_238 (t_X12_asked_ hR h) rfl (by decide) rfl ⟨_, rfl⟩ rfl ⟨Nat.le_of_ble_eq_true rfl, Nat.le_of_ble_eq_true rfl⟩ (by omega) (by omega) rfl (by exact Nat.le_of_ble_eq_true rfl) (fun w t hp => ?_)
  obtain ⟨hR2, h0, hv, hI2⟩ := hp
  refine g_istore_6 (pc := 2153) X dL_law__2153 (by decide) rfl ?_
  refine g_aload_2 (pc := 2155) X dL_law__2155 ?_
  refine g_callV_I (pc := 2156) X Y dL_law__2156 miX12_thrown li_L_122 (t_X12_thrown hR2 (Q := fun x => x = t.1 65 0) rfl) rfl (by decide) rfl ⟨_, rfl⟩ rfl ⟨Nat.le_of_ble_eq_true rfl, Nat.le_of_ble_eq_true rfl⟩ (by omega) (by omega) rfl (by exact Nat.le_of_ble_eq_true rfl) (fun x s9 hp => ?_)
  obtain ⟨rfl, rfl⟩ := hp
  refine g_iload_5 (pc := 2159) X dL_law__2159 ?_
  refine g_icmp_eq (pc := 2161) X dL_law__2161 (tgt := 2166) (by decide) (fun _ => ?_) (fun q => absurd h0 q)
  refine g_iload_5 (pc := 2166) X dL_law__2166 ?_
  have fin : G o γ (cells + 1) (slots + 6) 116 t 2183 [some (.ref bs), some (.ref (ad o 0)), some (.ref (ad o 65)), some (.ref (ad o 115)), some (.int (nI i)), some (.int k), some (.int w), none] [] := by
    refine g_goto (pc := 2183) X dL_law__2183 (tgt := 2484) (by decide) ?_
    refine g_widen (k1 := cells + 5) (k2 := slots + 30) (by omega) (by omega) ?_
    exact g_drop (by simp [lsub]) (K t hI2)
  refine g_if_ne (pc := 2168) X dL_law__2168 (tgt := 2183) (by decide) (fun _ => fin) (fun q => ?_)
  have q0 : k = 0 := by simpa using q
  refine g_aload_3 (pc := 2171) X dL_law__2171 ?_
  refine g_iconst (pc := 2172) X dL_law__2172 kiconst_0 ?_
  refine g_laload_n (pc := 2173) (a := 0) X dL_law__2173 rfl (by decide) rfl (by decide) ?_
  rw [hv q0]
  refine g_iload_6 (pc := 2174) X dL_law__2174 ?_
  refine g_i2l (pc := 2176) X dL_law__2176 ?_
  exact g_lcmp_eq (pc := 2177) X dL_law__2177 dL_law__2178 (tgt := 2183) (by decide) (fun _ => fin) (fun q => absurd rfl q)
theorem lk_34 (X : gX o γ cL_law_ 8 RL) (Y : gE o γ 2048 601024 7293033 116 rt pst) (S : gScr o γ bs L xs) (hst : γ.2.1.stackTraces = false) (hI : Inv b σ) (hi : i + 6 ≤ L) (hL : L ≤ 3072) (hc : cells + 5 ≤ 601024) (hs : slots + 30 ≤ 7293033) (K : lwK o γ bs i cells slots) : G o γ cells slots 116 σ 2186 [some (.ref bs), some (.ref (ad o 0)), some (.ref (ad o 65)), some (.ref (ad o 115)), some (.int (nI i)), none, none, none] [] := by
  refine g_aload_1 (pc := 2186) X dL_law__2186 ?_
  refine g_arg (pc := 2187) (k := 1) X S dL_law__2187 dL_law__2188 dL_law__2190 dL_law__2191 dL_law__2192 kiconst_1 (by omega) (by omega) hL ?_
  refine g_arg (pc := 2193) (k := 2) X S dL_law__2193 dL_law__2194 dL_law__2196 dL_law__2197 dL_law__2198 kiconst_2 (by omega) (by omega) hL ?_
  refine g_aload_3 (pc := 2199) X dL_law__2199 ?_
  refine g_callSW (pc := 2200) X Y dL_law__2200 mwL_near li_L_239 (lL_near hst hI (xs (i + 1)) (xs (i + 2))) rfl ⟨Nat.le_of_ble_eq_true rfl, Nat.le_of_ble_eq_true rfl⟩ ⟨by omega, by omega⟩ (by exact Nat.le_of_ble_eq_true rfl) rfl (fun k s hp => ?_)
  obtain ⟨⟨b2, hR⟩, h⟩ := hp
  refine g_istore_5 (pc := 2203) X dL_law__2203 (by decide) rfl ?_
  refine g_aload_2 (pc := 2205) X dL_law__2205 ?_
  refine g_arg (pc := 2206) (k := 1) X S dL_law__2206 dL_law__2207 dL_law__2209 dL_law__2210 dL_law__2211 kiconst_1 (by omega) (by omega) hL ?_
  refine g_arg (pc := 2212) (k := 2) X S dL_law__2212 dL_law__2213 dL_law__2215 dL_law__2216 dL_law__2217 kiconst_2 (by omega) (by omega) hL ?_
  refine g_callV_I (pc := 2218) X Y dL_law__2218 miX12_near li_L_241 (t_X12_near hR h) rfl (by decide) rfl ⟨_, rfl⟩ rfl ⟨Nat.le_of_ble_eq_true rfl, Nat.le_of_ble_eq_true rfl⟩ (by omega) (by omega) rfl (by exact Nat.le_of_ble_eq_true rfl) (fun w t hp => ?_)
  obtain ⟨hR2, h0, hv, hI2⟩ := hp
  refine g_istore_6 (pc := 2221) X dL_law__2221 (by decide) rfl ?_
  refine g_aload_2 (pc := 2223) X dL_law__2223 ?_
  refine g_callV_I (pc := 2224) X Y dL_law__2224 miX12_thrown li_L_122 (t_X12_thrown hR2 (Q := fun x => x = t.1 65 0) rfl) rfl (by decide) rfl ⟨_, rfl⟩ rfl ⟨Nat.le_of_ble_eq_true rfl, Nat.le_of_ble_eq_true rfl⟩ (by omega) (by omega) rfl (by exact Nat.le_of_ble_eq_true rfl) (fun x s9 hp => ?_)
  obtain ⟨rfl, rfl⟩ := hp
  refine g_iload_5 (pc := 2227) X dL_law__2227 ?_
  refine g_icmp_eq (pc := 2229) X dL_law__2229 (tgt := 2234) (by decide) (fun _ => ?_) (fun q => absurd h0 q)
  refine g_iload_5 (pc := 2234) X dL_law__2234 ?_
  have fin : G o γ (cells + 2) (slots + 12) 116 t 2251 [some (.ref bs), some (.ref (ad o 0)), some (.ref (ad o 65)), some (.ref (ad o 115)), some (.int (nI i)), some (.int k), some (.int w), none] [] := by
    refine g_goto (pc := 2251) X dL_law__2251 (tgt := 2484) (by decide) ?_
    refine g_widen (k1 := cells + 5) (k2 := slots + 30) (by omega) (by omega) ?_
    exact g_drop (by simp [lsub]) (K t hI2)
  refine g_if_ne (pc := 2236) X dL_law__2236 (tgt := 2251) (by decide) (fun _ => fin) (fun q => ?_)
  have q0 : k = 0 := by simpa using q
  refine g_aload_3 (pc := 2239) X dL_law__2239 ?_
  refine g_iconst (pc := 2240) X dL_law__2240 kiconst_0 ?_
  refine g_laload_n (pc := 2241) (a := 0) X dL_law__2241 rfl (by decide) rfl (by decide) ?_
  rw [hv q0]
  refine g_iload_6 (pc := 2242) X dL_law__2242 ?_
  refine g_i2l (pc := 2244) X dL_law__2244 ?_
  exact g_lcmp_eq (pc := 2245) X dL_law__2245 dL_law__2246 (tgt := 2251) (by decide) (fun _ => fin) (fun q => absurd rfl q)
theorem lk_35 (X : gX o γ cL_law_ 8 RL) (Y : gE o γ 2048 601024 7293033 116 rt pst) (S : gScr o γ bs L xs) (hst : γ.2.1.stackTraces = false) (hI : Inv b σ) (hi : i + 6 ≤ L) (hL : L ≤ 3072) (hc : cells + 5 ≤ 601024) (hs : slots + 30 ≤ 7293033) (K : lwK o γ bs i cells slots) : G o γ cells slots 116 σ 2254 [some (.ref bs), some (.ref (ad o 0)), some (.ref (ad o 65)), some (.ref (ad o 115)), some (.int (nI i)), none, none, none] [] := by
  refine g_aload_1 (pc := 2254) X dL_law__2254 ?_
  refine g_arg (pc := 2255) (k := 1) X S dL_law__2255 dL_law__2256 dL_law__2258 dL_law__2259 dL_law__2260 kiconst_1 (by omega) (by omega) hL ?_
  refine g_arg (pc := 2261) (k := 2) X S dL_law__2261 dL_law__2262 dL_law__2264 dL_law__2265 dL_law__2266 kiconst_2 (by omega) (by omega) hL ?_
  refine g_aload_3 (pc := 2267) X dL_law__2267 ?_
  refine g_callSW (pc := 2268) X Y dL_law__2268 mwL_nearest li_L_242 (lL_nearest hst hI (xs (i + 1)) (xs (i + 2))) rfl ⟨Nat.le_of_ble_eq_true rfl, Nat.le_of_ble_eq_true rfl⟩ ⟨by omega, by omega⟩ (by exact Nat.le_of_ble_eq_true rfl) rfl (fun k s hp => ?_)
  obtain ⟨⟨b2, hR⟩, h⟩ := hp
  refine g_istore_5 (pc := 2271) X dL_law__2271 (by decide) rfl ?_
  refine g_aload_2 (pc := 2273) X dL_law__2273 ?_
  refine g_arg (pc := 2274) (k := 1) X S dL_law__2274 dL_law__2275 dL_law__2277 dL_law__2278 dL_law__2279 kiconst_1 (by omega) (by omega) hL ?_
  refine g_arg (pc := 2280) (k := 2) X S dL_law__2280 dL_law__2281 dL_law__2283 dL_law__2284 dL_law__2285 kiconst_2 (by omega) (by omega) hL ?_
  refine g_callV_I (pc := 2286) X Y dL_law__2286 miX12_nearest li_L_244 (t_X12_nearest hR h) rfl (by decide) rfl ⟨_, rfl⟩ rfl ⟨Nat.le_of_ble_eq_true rfl, Nat.le_of_ble_eq_true rfl⟩ (by omega) (by omega) rfl (by exact Nat.le_of_ble_eq_true rfl) (fun w t hp => ?_)
  obtain ⟨hR2, h0, hv, hI2⟩ := hp
  refine g_istore_6 (pc := 2289) X dL_law__2289 (by decide) rfl ?_
  refine g_aload_2 (pc := 2291) X dL_law__2291 ?_
  refine g_callV_I (pc := 2292) X Y dL_law__2292 miX12_thrown li_L_122 (t_X12_thrown hR2 (Q := fun x => x = t.1 65 0) rfl) rfl (by decide) rfl ⟨_, rfl⟩ rfl ⟨Nat.le_of_ble_eq_true rfl, Nat.le_of_ble_eq_true rfl⟩ (by omega) (by omega) rfl (by exact Nat.le_of_ble_eq_true rfl) (fun x s9 hp => ?_)
  obtain ⟨rfl, rfl⟩ := hp
  refine g_iload_5 (pc := 2295) X dL_law__2295 ?_
  refine g_icmp_eq (pc := 2297) X dL_law__2297 (tgt := 2302) (by decide) (fun _ => ?_) (fun q => absurd h0 q)
  refine g_iload_5 (pc := 2302) X dL_law__2302 ?_
  have fin : G o γ (cells + 2) (slots + 12) 116 t 2319 [some (.ref bs), some (.ref (ad o 0)), some (.ref (ad o 65)), some (.ref (ad o 115)), some (.int (nI i)), some (.int k), some (.int w), none] [] := by
    refine g_goto (pc := 2319) X dL_law__2319 (tgt := 2484) (by decide) ?_
    refine g_widen (k1 := cells + 5) (k2 := slots + 30) (by omega) (by omega) ?_
    exact g_drop (by simp [lsub]) (K t hI2)
  refine g_if_ne (pc := 2304) X dL_law__2304 (tgt := 2319) (by decide) (fun _ => fin) (fun q => ?_)
  have q0 : k = 0 := by simpa using q
  refine g_aload_3 (pc := 2307) X dL_law__2307 ?_
  refine g_iconst (pc := 2308) X dL_law__2308 kiconst_0 ?_
  refine g_laload_n (pc := 2309) (a := 0) X dL_law__2309 rfl (by decide) rfl (by decide) ?_
  rw [hv q0]
  refine g_iload_6 (pc := 2310) X dL_law__2310 ?_
  refine g_i2l (pc := 2312) X dL_law__2312 ?_
  exact g_lcmp_eq (pc := 2313) X dL_law__2313 dL_law__2314 (tgt := 2319) (by decide) (fun _ => fin) (fun q => absurd rfl q)
theorem lk_36 (X : gX o γ cL_law_ 8 RL) (Y : gE o γ 2048 601024 7293033 116 rt pst) (S : gScr o γ bs L xs) (hst : γ.2.1.stackTraces = false) (hI : Inv b σ) (hi : i + 6 ≤ L) (hL : L ≤ 3072) (hc : cells + 5 ≤ 601024) (hs : slots + 30 ≤ 7293033) (K : lwK o γ bs i cells slots) : G o γ cells slots 116 σ 2322 [some (.ref bs), some (.ref (ad o 0)), some (.ref (ad o 65)), some (.ref (ad o 115)), some (.int (nI i)), none, none, none] [] := by
  refine g_aload_1 (pc := 2322) X dL_law__2322 ?_
  refine g_arg (pc := 2323) (k := 1) X S dL_law__2323 dL_law__2324 dL_law__2326 dL_law__2327 dL_law__2328 kiconst_1 (by omega) (by omega) hL ?_
  refine g_aload_3 (pc := 2329) X dL_law__2329 ?_
  refine g_callSW (pc := 2330) X Y dL_law__2330 mwL_without li_L_245 (lL_without hst hI (xs (i + 1))) rfl ⟨Nat.le_of_ble_eq_true rfl, Nat.le_of_ble_eq_true rfl⟩ ⟨by omega, by omega⟩ (by exact Nat.le_of_ble_eq_true rfl) rfl (fun k s hp => ?_)
  obtain ⟨⟨b2, hR⟩, h⟩ := hp
  refine g_istore_5 (pc := 2333) X dL_law__2333 (by decide) rfl ?_
  refine g_aload_2 (pc := 2335) X dL_law__2335 ?_
  refine g_arg (pc := 2336) (k := 1) X S dL_law__2336 dL_law__2337 dL_law__2339 dL_law__2340 dL_law__2341 kiconst_1 (by omega) (by omega) hL ?_
  refine g_callV_L (pc := 2342) X Y dL_law__2342 miX12_without li_L_247 (t_X12_without hR h) rfl (by decide) rfl ⟨_, rfl⟩ rfl ⟨Nat.le_of_ble_eq_true rfl, Nat.le_of_ble_eq_true rfl⟩ (by omega) (by omega) rfl (by exact Nat.le_of_ble_eq_true rfl) (fun w t hp => ?_)
  obtain ⟨hR2, h0, hv, hI2⟩ := hp
  refine g_lstore_6 (pc := 2345) X dL_law__2345 (by decide) rfl ?_
  refine g_aload_2 (pc := 2347) X dL_law__2347 ?_
  refine g_callV_I (pc := 2348) X Y dL_law__2348 miX12_thrown li_L_122 (t_X12_thrown hR2 (Q := fun x => x = t.1 65 0) rfl) rfl (by decide) rfl ⟨_, rfl⟩ rfl ⟨Nat.le_of_ble_eq_true rfl, Nat.le_of_ble_eq_true rfl⟩ (by omega) (by omega) rfl (by exact Nat.le_of_ble_eq_true rfl) (fun x s9 hp => ?_)
  obtain ⟨rfl, rfl⟩ := hp
  refine g_iload_5 (pc := 2351) X dL_law__2351 ?_
  refine g_icmp_eq (pc := 2353) X dL_law__2353 (tgt := 2358) (by decide) (fun _ => ?_) (fun q => absurd h0 q)
  refine g_iload_5 (pc := 2358) X dL_law__2358 ?_
  have fin : G o γ (cells + 1) (slots + 6) 116 t 2374 [some (.ref bs), some (.ref (ad o 0)), some (.ref (ad o 65)), some (.ref (ad o 115)), some (.int (nI i)), some (.int k), some (.long w), none] [] := by
    refine g_goto (pc := 2374) X dL_law__2374 (tgt := 2484) (by decide) ?_
    refine g_widen (k1 := cells + 5) (k2 := slots + 30) (by omega) (by omega) ?_
    exact g_drop (by simp [lsub]) (K t hI2)
  refine g_if_ne (pc := 2360) X dL_law__2360 (tgt := 2374) (by decide) (fun _ => fin) (fun q => ?_)
  have q0 : k = 0 := by simpa using q
  refine g_aload_3 (pc := 2363) X dL_law__2363 ?_
  refine g_iconst (pc := 2364) X dL_law__2364 kiconst_0 ?_
  refine g_laload_n (pc := 2365) (a := 0) X dL_law__2365 rfl (by decide) rfl (by decide) ?_
  rw [hv q0]
  refine g_lload_6 (pc := 2366) X dL_law__2366 ?_
  exact g_lcmp_eq (pc := 2368) X dL_law__2368 dL_law__2369 (tgt := 2374) (by decide) (fun _ => fin) (fun q => absurd rfl q)
theorem lk_37 (X : gX o γ cL_law_ 8 RL) (Y : gE o γ 2048 601024 7293033 116 rt pst) (S : gScr o γ bs L xs) (hst : γ.2.1.stackTraces = false) (hI : Inv b σ) (hi : i + 6 ≤ L) (hL : L ≤ 3072) (hc : cells + 5 ≤ 601024) (hs : slots + 30 ≤ 7293033) (K : lwK o γ bs i cells slots) : G o γ cells slots 116 σ 2377 [some (.ref bs), some (.ref (ad o 0)), some (.ref (ad o 65)), some (.ref (ad o 115)), some (.int (nI i)), none, none, none] [] := by
  refine g_aload_1 (pc := 2377) X dL_law__2377 ?_
  refine g_arg (pc := 2378) (k := 1) X S dL_law__2378 dL_law__2379 dL_law__2381 dL_law__2382 dL_law__2383 kiconst_1 (by omega) (by omega) hL ?_
  refine g_aload_3 (pc := 2384) X dL_law__2384 ?_
  refine g_callSW (pc := 2385) X Y dL_law__2385 mwL_stands li_L_248 (lL_stands hst hI (xs (i + 1))) rfl ⟨Nat.le_of_ble_eq_true rfl, Nat.le_of_ble_eq_true rfl⟩ ⟨by omega, by omega⟩ (by exact Nat.le_of_ble_eq_true rfl) rfl (fun k s hp => ?_)
  obtain ⟨⟨b2, hR⟩, h⟩ := hp
  refine g_istore_5 (pc := 2388) X dL_law__2388 (by decide) rfl ?_
  refine g_aload_2 (pc := 2390) X dL_law__2390 ?_
  refine g_arg (pc := 2391) (k := 1) X S dL_law__2391 dL_law__2392 dL_law__2394 dL_law__2395 dL_law__2396 kiconst_1 (by omega) (by omega) hL ?_
  refine g_callV_I (pc := 2397) X Y dL_law__2397 miX12_stands li_L_250 (t_X12_stands hR h) rfl (by decide) rfl ⟨_, rfl⟩ rfl ⟨Nat.le_of_ble_eq_true rfl, Nat.le_of_ble_eq_true rfl⟩ (by omega) (by omega) rfl (by exact Nat.le_of_ble_eq_true rfl) (fun w t hp => ?_)
  obtain ⟨hR2, h0, hv, hI2⟩ := hp
  refine g_istore_6 (pc := 2400) X dL_law__2400 (by decide) rfl ?_
  refine g_aload_2 (pc := 2402) X dL_law__2402 ?_
  refine g_callV_I (pc := 2403) X Y dL_law__2403 miX12_thrown li_L_122 (t_X12_thrown hR2 (Q := fun x => x = t.1 65 0) rfl) rfl (by decide) rfl ⟨_, rfl⟩ rfl ⟨Nat.le_of_ble_eq_true rfl, Nat.le_of_ble_eq_true rfl⟩ (by omega) (by omega) rfl (by exact Nat.le_of_ble_eq_true rfl) (fun x s9 hp => ?_)
  obtain ⟨rfl, rfl⟩ := hp
  refine g_iload_5 (pc := 2406) X dL_law__2406 ?_
  refine g_icmp_eq (pc := 2408) X dL_law__2408 (tgt := 2413) (by decide) (fun _ => ?_) (fun q => absurd h0 q)
  refine g_iload_5 (pc := 2413) X dL_law__2413 ?_
  have fin : G o γ (cells + 1) (slots + 6) 116 t 2430 [some (.ref bs), some (.ref (ad o 0)), some (.ref (ad o 65)), some (.ref (ad o 115)), some (.int (nI i)), some (.int k), some (.int w), none] [] := by
    refine g_goto (pc := 2430) X dL_law__2430 (tgt := 2484) (by decide) ?_
    refine g_widen (k1 := cells + 5) (k2 := slots + 30) (by omega) (by omega) ?_
    exact g_drop (by simp [lsub]) (K t hI2)
  refine g_if_ne (pc := 2415) X dL_law__2415 (tgt := 2430) (by decide) (fun _ => fin) (fun q => ?_)
  have q0 : k = 0 := by simpa using q
  refine g_aload_3 (pc := 2418) X dL_law__2418 ?_
  refine g_iconst (pc := 2419) X dL_law__2419 kiconst_0 ?_
  refine g_laload_n (pc := 2420) (a := 0) X dL_law__2420 rfl (by decide) rfl (by decide) ?_
  rw [hv q0]
  refine g_iload_6 (pc := 2421) X dL_law__2421 ?_
  refine g_i2l (pc := 2423) X dL_law__2423 ?_
  exact g_lcmp_eq (pc := 2424) X dL_law__2424 dL_law__2425 (tgt := 2430) (by decide) (fun _ => fin) (fun q => absurd rfl q)
theorem lk_38 (X : gX o γ cL_law_ 8 RL) (Y : gE o γ 2048 601024 7293033 116 rt pst) (S : gScr o γ bs L xs) (hst : γ.2.1.stackTraces = false) (hI : Inv b σ) (hi : i + 6 ≤ L) (hL : L ≤ 3072) (hc : cells + 5 ≤ 601024) (hs : slots + 30 ≤ 7293033) (K : lwK o γ bs i cells slots) : G o γ cells slots 116 σ 2433 [some (.ref bs), some (.ref (ad o 0)), some (.ref (ad o 65)), some (.ref (ad o 115)), some (.int (nI i)), none, none, none] [] := by
  have hR := hI.1
  have h := op_mark hI 
  unfold OKN at h
  refine g_aload_1 (pc := 2433) X dL_law__2433 ?_
  refine g_callV_I (pc := 2434) X Y dL_law__2434 miX11_mark li_L_251 (t_X11_mark hR h) rfl (by decide) rfl ⟨_, rfl⟩ rfl ⟨Nat.le_of_ble_eq_true rfl, Nat.le_of_ble_eq_true rfl⟩ (by omega) (by omega) rfl (by exact Nat.le_of_ble_eq_true rfl) (fun v s hp => ?_)
  obtain ⟨hR, h⟩ := hp
  refine g_aload_2 (pc := 2437) X dL_law__2437 ?_
  refine g_callV_I (pc := 2438) X Y dL_law__2438 miX12_mark li_L_254 (t_X12_mark hR h) rfl (by decide) rfl ⟨_, rfl⟩ rfl ⟨Nat.le_of_ble_eq_true rfl, Nat.le_of_ble_eq_true rfl⟩ (by omega) (by omega) rfl (by exact Nat.le_of_ble_eq_true rfl) (fun w t hp => ?_)
  obtain ⟨hR2, e, hI2⟩ := hp
  subst e
  have fin : G o γ cells slots 116 t 2484 [some (.ref bs), some (.ref (ad o 0)), some (.ref (ad o 65)), some (.ref (ad o 115)), some (.int (nI i)), none, none, none] [] := g_widen (k1 := cells + 5) (k2 := slots + 30) (by omega) (by omega) (K t hI2)
  exact g_icmp_eq (pc := 2441) X dL_law__2441 (tgt := 2484) (by decide) (fun _ => fin) (fun q => absurd rfl q)
theorem lk_39 (X : gX o γ cL_law_ 8 RL) (Y : gE o γ 2048 601024 7293033 116 rt pst) (S : gScr o γ bs L xs) (hst : γ.2.1.stackTraces = false) (hI : Inv b σ) (hi : i + 6 ≤ L) (hL : L ≤ 3072) (hc : cells + 5 ≤ 601024) (hs : slots + 30 ≤ 7293033) (K : lwK o γ bs i cells slots) : G o γ cells slots 116 σ 2446 [some (.ref bs), some (.ref (ad o 0)), some (.ref (ad o 65)), some (.ref (ad o 115)), some (.int (nI i)), none, none, none] [] := by
  have hR := hI.1
  have h := op_back hI 
  unfold OKN at h
  refine g_aload_1 (pc := 2446) X dL_law__2446 ?_
  refine g_callV_I (pc := 2447) X Y dL_law__2447 miX11_back li_L_255 (t_X11_back hR h) rfl (by decide) rfl ⟨_, rfl⟩ rfl ⟨Nat.le_of_ble_eq_true rfl, Nat.le_of_ble_eq_true rfl⟩ (by omega) (by omega) rfl (by exact Nat.le_of_ble_eq_true rfl) (fun v s hp => ?_)
  obtain ⟨hR, h⟩ := hp
  refine g_aload_2 (pc := 2450) X dL_law__2450 ?_
  refine g_callV_I (pc := 2451) X Y dL_law__2451 miX12_back li_L_258 (t_X12_back hR h) rfl (by decide) rfl ⟨_, rfl⟩ rfl ⟨Nat.le_of_ble_eq_true rfl, Nat.le_of_ble_eq_true rfl⟩ (by omega) (by omega) rfl (by exact Nat.le_of_ble_eq_true rfl) (fun w t hp => ?_)
  obtain ⟨hR2, e, hI2⟩ := hp
  subst e
  have fin : G o γ cells slots 116 t 2484 [some (.ref bs), some (.ref (ad o 0)), some (.ref (ad o 65)), some (.ref (ad o 115)), some (.int (nI i)), none, none, none] [] := g_widen (k1 := cells + 5) (k2 := slots + 30) (by omega) (by omega) (K t hI2)
  exact g_icmp_eq (pc := 2454) X dL_law__2454 (tgt := 2484) (by decide) (fun _ => fin) (fun q => absurd rfl q)
theorem lk_40 (X : gX o γ cL_law_ 8 RL) (Y : gE o γ 2048 601024 7293033 116 rt pst) (S : gScr o γ bs L xs) (hst : γ.2.1.stackTraces = false) (hI : Inv b σ) (hi : i + 6 ≤ L) (hL : L ≤ 3072) (hc : cells + 5 ≤ 601024) (hs : slots + 30 ≤ 7293033) (K : lwK o γ bs i cells slots) : G o γ cells slots 116 σ 2459 [some (.ref bs), some (.ref (ad o 0)), some (.ref (ad o 65)), some (.ref (ad o 115)), some (.int (nI i)), none, none, none] [] := by
  have hR := hI.1
  have h := op_count hI (xs (i + 1))
  unfold OKN at h
  refine g_aload_1 (pc := 2459) X dL_law__2459 ?_
  refine g_arg (pc := 2460) (k := 1) X S dL_law__2460 dL_law__2461 dL_law__2463 dL_law__2464 dL_law__2465 kiconst_1 (by omega) (by omega) hL ?_
  refine g_callV_I (pc := 2466) X Y dL_law__2466 miX11_count li_L_259 (t_X11_count hR h) rfl (by decide) rfl ⟨_, rfl⟩ rfl ⟨Nat.le_of_ble_eq_true rfl, Nat.le_of_ble_eq_true rfl⟩ (by omega) (by omega) rfl (by exact Nat.le_of_ble_eq_true rfl) (fun v s hp => ?_)
  obtain ⟨hR, h⟩ := hp
  refine g_aload_2 (pc := 2469) X dL_law__2469 ?_
  refine g_arg (pc := 2470) (k := 1) X S dL_law__2470 dL_law__2471 dL_law__2473 dL_law__2474 dL_law__2475 kiconst_1 (by omega) (by omega) hL ?_
  refine g_callV_I (pc := 2476) X Y dL_law__2476 miX12_count li_L_262 (t_X12_count hR h) rfl (by decide) rfl ⟨_, rfl⟩ rfl ⟨Nat.le_of_ble_eq_true rfl, Nat.le_of_ble_eq_true rfl⟩ (by omega) (by omega) rfl (by exact Nat.le_of_ble_eq_true rfl) (fun w t hp => ?_)
  obtain ⟨hR2, e, hI2⟩ := hp
  subst e
  have fin : G o γ cells slots 116 t 2484 [some (.ref bs), some (.ref (ad o 0)), some (.ref (ad o 65)), some (.ref (ad o 115)), some (.int (nI i)), none, none, none] [] := g_widen (k1 := cells + 5) (k2 := slots + 30) (by omega) (by omega) (K t hI2)
  exact g_icmp_eq (pc := 2479) X dL_law__2479 (tgt := 2484) (by decide) (fun _ => fin) (fun q => absurd rfl q)
end LAWC
