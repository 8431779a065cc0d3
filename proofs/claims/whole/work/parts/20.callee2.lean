set_option maxRecDepth 100000 in
theorem fCF_162 : cfok gP 162 11 0 2 := ⟨mm_162, rfl, gm 1290 (by decide +kernel), gm 149 (by decide +kernel), ⟨by decide, by decide⟩, by decide +kernel, Or.inr (Or.inr ⟨rfl, (RX11, TX11, 20), rfl, by decide, rfl, gm 1288 (by decide +kernel), gm 1289 (by decide +kernel)⟩)⟩
set_option maxRecDepth 100000 in
theorem fCF_163 : cfok gP 163 11 0 2 := ⟨mm_163, rfl, gm 1383 (by decide +kernel), gm 149 (by decide +kernel), ⟨by decide, by decide⟩, by decide +kernel, Or.inr (Or.inr ⟨rfl, (RX11, TX11, 20), rfl, by decide, rfl, gm 1382 (by decide +kernel), gm 68 (by decide +kernel)⟩)⟩
set_option maxRecDepth 100000 in
theorem fCF_164 : cfok gP 164 11 0 2 := ⟨mm_164, rfl, gm 1306 (by decide +kernel), gm 149 (by decide +kernel), ⟨by decide, by decide⟩, by decide +kernel, Or.inr (Or.inr ⟨rfl, (RX11, TX11, 20), rfl, by decide, rfl, gm 1305 (by decide +kernel), gm 60 (by decide +kernel)⟩)⟩
set_option maxRecDepth 100000 in
theorem fCF_165 : cfok gP 165 11 2 2 := ⟨mm_165, rfl, gm 1294 (by decide +kernel), gm 149 (by decide +kernel), ⟨by decide, by decide⟩, by decide +kernel, Or.inr (Or.inr ⟨rfl, (RX11, TX11, 20), rfl, by decide, rfl, gm 1292 (by decide +kernel), gm 1293 (by decide +kernel)⟩)⟩
set_option maxRecDepth 100000 in
theorem fCF_166 : cfok gP 166 11 1 2 := ⟨mm_166, rfl, gm 1298 (by decide +kernel), gm 149 (by decide +kernel), ⟨by decide, by decide⟩, by decide +kernel, Or.inr (Or.inr ⟨rfl, (RX11, TX11, 20), rfl, by decide, rfl, gm 1296 (by decide +kernel), gm 1297 (by decide +kernel)⟩)⟩
set_option maxRecDepth 100000 in
theorem fCF_167 : cfok gP 167 11 2 2 := ⟨mm_167, rfl, gm 1367 (by decide +kernel), gm 149 (by decide +kernel), ⟨by decide, by decide⟩, by decide +kernel, Or.inr (Or.inr ⟨rfl, (RX11, TX11, 20), rfl, by decide, rfl, gm 1365 (by decide +kernel), gm 1366 (by decide +kernel)⟩)⟩
set_option maxRecDepth 100000 in
theorem fCF_168 : cfok gP 168 11 1 2 := ⟨mm_168, rfl, gm 1375 (by decide +kernel), gm 149 (by decide +kernel), ⟨by decide, by decide⟩, by decide +kernel, Or.inr (Or.inr ⟨rfl, (RX11, TX11, 20), rfl, by decide, rfl, gm 1373 (by decide +kernel), gm 1374 (by decide +kernel)⟩)⟩
set_option maxRecDepth 100000 in
theorem fCF_169 : cfok gP 169 11 3 2 := ⟨mm_169, rfl, gm 1379 (by decide +kernel), gm 149 (by decide +kernel), ⟨by decide, by decide⟩, by decide +kernel, Or.inr (Or.inr ⟨rfl, (RX11, TX11, 20), rfl, by decide, rfl, gm 1377 (by decide +kernel), gm 1378 (by decide +kernel)⟩)⟩
set_option maxRecDepth 100000 in
theorem fCF_170 : cfok gP 170 11 1 2 := ⟨mm_170, rfl, gm 1418 (by decide +kernel), gm 149 (by decide +kernel), ⟨by decide, by decide⟩, by decide +kernel, Or.inr (Or.inr ⟨rfl, (RX11, TX11, 20), rfl, by decide, rfl, gm 1416 (by decide +kernel), gm 1417 (by decide +kernel)⟩)⟩
set_option maxRecDepth 100000 in
theorem fCF_171 : cfok gP 171 11 2 2 := ⟨mm_171, rfl, gm 1434 (by decide +kernel), gm 149 (by decide +kernel), ⟨by decide, by decide⟩, by decide +kernel, Or.inr (Or.inr ⟨rfl, (RX11, TX11, 20), rfl, by decide, rfl, gm 1432 (by decide +kernel), gm 1433 (by decide +kernel)⟩)⟩
set_option maxRecDepth 100000 in
theorem fCF_172 : cfok gP 172 11 1 2 := ⟨mm_172, rfl, gm 1442 (by decide +kernel), gm 149 (by decide +kernel), ⟨by decide, by decide⟩, by decide +kernel, Or.inr (Or.inr ⟨rfl, (RX11, TX11, 20), rfl, by decide, rfl, gm 1440 (by decide +kernel), gm 1441 (by decide +kernel)⟩)⟩
set_option maxRecDepth 100000 in
theorem fCF_173 : cfok gP 173 11 1 2 := ⟨mm_173, rfl, gm 1451 (by decide +kernel), gm 149 (by decide +kernel), ⟨by decide, by decide⟩, by decide +kernel, Or.inr (Or.inr ⟨rfl, (RX11, TX11, 20), rfl, by decide, rfl, gm 1449 (by decide +kernel), gm 1450 (by decide +kernel)⟩)⟩
set_option maxRecDepth 100000 in
theorem fCF_174 : cfok gP 174 11 3 2 := ⟨mm_174, rfl, gm 1455 (by decide +kernel), gm 149 (by decide +kernel), ⟨by decide, by decide⟩, by decide +kernel, Or.inr (Or.inr ⟨rfl, (RX11, TX11, 20), rfl, by decide, rfl, gm 1453 (by decide +kernel), gm 1454 (by decide +kernel)⟩)⟩
set_option maxRecDepth 100000 in
theorem fCF_175 : cfok gP 175 11 4 2 := ⟨mm_175, rfl, gm 1459 (by decide +kernel), gm 149 (by decide +kernel), ⟨by decide, by decide⟩, by decide +kernel, Or.inr (Or.inr ⟨rfl, (RX11, TX11, 20), rfl, by decide, rfl, gm 1458 (by decide +kernel), gm 71 (by decide +kernel)⟩)⟩
set_option maxRecDepth 100000 in
theorem fCF_176 : cfok gP 176 11 2 2 := ⟨mm_176, rfl, gm 1463 (by decide +kernel), gm 149 (by decide +kernel), ⟨by decide, by decide⟩, by decide +kernel, Or.inr (Or.inr ⟨rfl, (RX11, TX11, 20), rfl, by decide, rfl, gm 1461 (by decide +kernel), gm 1462 (by decide +kernel)⟩)⟩
set_option maxRecDepth 100000 in
theorem fCF_177 : cfok gP 177 11 2 2 := ⟨mm_177, rfl, gm 1467 (by decide +kernel), gm 149 (by decide +kernel), ⟨by decide, by decide⟩, by decide +kernel, Or.inr (Or.inr ⟨rfl, (RX11, TX11, 20), rfl, by decide, rfl, gm 1465 (by decide +kernel), gm 1466 (by decide +kernel)⟩)⟩
set_option maxRecDepth 100000 in
theorem fCF_178 : cfok gP 178 11 1 0 := ⟨mm_178, rfl, gm 1474 (by decide +kernel), gm 149 (by decide +kernel), ⟨by decide, by decide⟩, by decide +kernel, Or.inl ⟨rfl, gm 1473 (by decide +kernel)⟩⟩
set_option maxRecDepth 100000 in
theorem fCF_179 : cfok gP 179 11 1 2 := ⟨mm_179, rfl, gm 1478 (by decide +kernel), gm 149 (by decide +kernel), ⟨by decide, by decide⟩, by decide +kernel, Or.inr (Or.inr ⟨rfl, (RX11, TX11, 20), rfl, by decide, rfl, gm 1477 (by decide +kernel), gm 72 (by decide +kernel)⟩)⟩
set_option maxRecDepth 100000 in
theorem fCF_180 : cfok gP 180 11 3 2 := ⟨mm_180, rfl, gm 1471 (by decide +kernel), gm 149 (by decide +kernel), ⟨by decide, by decide⟩, by decide +kernel, Or.inr (Or.inr ⟨rfl, (RX11, TX11, 20), rfl, by decide, rfl, gm 1469 (by decide +kernel), gm 1470 (by decide +kernel)⟩)⟩
set_option maxRecDepth 100000 in
theorem fCF_181 : cfok gP 181 11 1 2 := ⟨mm_181, rfl, gm 1482 (by decide +kernel), gm 149 (by decide +kernel), ⟨by decide, by decide⟩, by decide +kernel, Or.inr (Or.inr ⟨rfl, (RX11, TX11, 20), rfl, by decide, rfl, gm 1480 (by decide +kernel), gm 1481 (by decide +kernel)⟩)⟩
set_option maxRecDepth 100000 in
theorem fCF_182 : cfok gP 182 11 1 2 := ⟨mm_182, rfl, gm 1487 (by decide +kernel), gm 149 (by decide +kernel), ⟨by decide, by decide⟩, by decide +kernel, Or.inr (Or.inr ⟨rfl, (RX11, TX11, 20), rfl, by decide, rfl, gm 1485 (by decide +kernel), gm 1486 (by decide +kernel)⟩)⟩
set_option maxRecDepth 100000 in
theorem fCF_183 : cfok gP 183 11 1 2 := ⟨mm_183, rfl, gm 1495 (by decide +kernel), gm 149 (by decide +kernel), ⟨by decide, by decide⟩, by decide +kernel, Or.inr (Or.inr ⟨rfl, (RX11, TX11, 20), rfl, by decide, rfl, gm 1493 (by decide +kernel), gm 1494 (by decide +kernel)⟩)⟩
set_option maxRecDepth 100000 in
theorem fCF_184 : cfok gP 184 11 1 2 := ⟨mm_184, rfl, gm 1499 (by decide +kernel), gm 149 (by decide +kernel), ⟨by decide, by decide⟩, by decide +kernel, Or.inr (Or.inr ⟨rfl, (RX11, TX11, 20), rfl, by decide, rfl, gm 1497 (by decide +kernel), gm 1498 (by decide +kernel)⟩)⟩
set_option maxRecDepth 100000 in
theorem fCF_185 : cfok gP 185 11 1 2 := ⟨mm_185, rfl, gm 1503 (by decide +kernel), gm 149 (by decide +kernel), ⟨by decide, by decide⟩, by decide +kernel, Or.inr (Or.inr ⟨rfl, (RX11, TX11, 20), rfl, by decide, rfl, gm 1501 (by decide +kernel), gm 1502 (by decide +kernel)⟩)⟩
set_option maxRecDepth 100000 in
theorem fCF_186 : cfok gP 186 11 0 2 := ⟨mm_186, rfl, gm 1507 (by decide +kernel), gm 149 (by decide +kernel), ⟨by decide, by decide⟩, by decide +kernel, Or.inr (Or.inr ⟨rfl, (RX11, TX11, 20), rfl, by decide, rfl, gm 1506 (by decide +kernel), gm 73 (by decide +kernel)⟩)⟩
set_option maxRecDepth 100000 in
theorem fCF_187 : cfok gP 187 12 0 1 := ⟨mm_187, rfl, gm 1512 (by decide +kernel), gm 167 (by decide +kernel), ⟨by decide, by decide⟩, by decide +kernel, Or.inr (Or.inl ⟨rfl, rfl, rfl, gm 1511 (by decide +kernel)⟩)⟩
set_option maxRecDepth 100000 in
theorem fCF_188 : cfok gP 188 12 5 2 := ⟨mm_188, rfl, gm 1788 (by decide +kernel), gm 167 (by decide +kernel), ⟨by decide, by decide⟩, by decide +kernel, Or.inr (Or.inr ⟨rfl, (RX12, TX12, 85), rfl, by decide, rfl, gm 1786 (by decide +kernel), gm 1787 (by decide +kernel)⟩)⟩
set_option maxRecDepth 100000 in
theorem fCF_189 : cfok gP 189 12 1 2 := ⟨mm_189, rfl, gm 1792 (by decide +kernel), gm 167 (by decide +kernel), ⟨by decide, by decide⟩, by decide +kernel, Or.inr (Or.inr ⟨rfl, (RX12, TX12, 85), rfl, by decide, rfl, gm 1791 (by decide +kernel), gm 76 (by decide +kernel)⟩)⟩
set_option maxRecDepth 100000 in
theorem fCF_190 : cfok gP 190 12 1 2 := ⟨mm_190, rfl, gm 1796 (by decide +kernel), gm 167 (by decide +kernel), ⟨by decide, by decide⟩, by decide +kernel, Or.inr (Or.inr ⟨rfl, (RX12, TX12, 85), rfl, by decide, rfl, gm 1794 (by decide +kernel), gm 1795 (by decide +kernel)⟩)⟩
set_option maxRecDepth 100000 in
theorem fCF_191 : cfok gP 191 12 1 2 := ⟨mm_191, rfl, gm 1808 (by decide +kernel), gm 167 (by decide +kernel), ⟨by decide, by decide⟩, by decide +kernel, Or.inr (Or.inr ⟨rfl, (RX12, TX12, 85), rfl, by decide, rfl, gm 1807 (by decide +kernel), gm 78 (by decide +kernel)⟩)⟩
set_option maxRecDepth 100000 in
theorem fCF_192 : cfok gP 192 12 1 0 := ⟨mm_192, rfl, gm 1818 (by decide +kernel), gm 167 (by decide +kernel), ⟨by decide, by decide⟩, by decide +kernel, Or.inl ⟨rfl, gm 1817 (by decide +kernel)⟩⟩
set_option maxRecDepth 100000 in
theorem fCF_193 : cfok gP 193 12 1 0 := ⟨mm_193, rfl, gm 1815 (by decide +kernel), gm 167 (by decide +kernel), ⟨by decide, by decide⟩, by decide +kernel, Or.inl ⟨rfl, gm 1814 (by decide +kernel)⟩⟩
set_option maxRecDepth 100000 in
theorem fCF_194 : cfok gP 194 12 2 0 := ⟨mm_194, rfl, gm 1519 (by decide +kernel), gm 167 (by decide +kernel), ⟨by decide, by decide⟩, by decide +kernel, Or.inl ⟨rfl, gm 1518 (by decide +kernel)⟩⟩
set_option maxRecDepth 100000 in
theorem fCF_195 : cfok gP 195 12 7 0 := ⟨mm_195, rfl, gm 1516 (by decide +kernel), gm 167 (by decide +kernel), ⟨by decide, by decide⟩, by decide +kernel, Or.inl ⟨rfl, gm 1515 (by decide +kernel)⟩⟩
set_option maxRecDepth 100000 in
theorem fCF_196 : cfok gP 196 12 4 2 := ⟨mm_196, rfl, gm 1812 (by decide +kernel), gm 167 (by decide +kernel), ⟨by decide, by decide⟩, by decide +kernel, Or.inr (Or.inr ⟨rfl, (RX12, TX12, 85), rfl, by decide, rfl, gm 1811 (by decide +kernel), gm 79 (by decide +kernel)⟩)⟩
set_option maxRecDepth 100000 in
theorem fCF_197 : cfok gP 197 12 0 2 := ⟨mm_197, rfl, gm 1804 (by decide +kernel), gm 167 (by decide +kernel), ⟨by decide, by decide⟩, by decide +kernel, Or.inr (Or.inr ⟨rfl, (RX12, TX12, 85), rfl, by decide, rfl, gm 1803 (by decide +kernel), gm 77 (by decide +kernel)⟩)⟩
set_option maxRecDepth 100000 in
theorem fCF_198 : cfok gP 198 12 3 2 := ⟨mm_198, rfl, gm 1822 (by decide +kernel), gm 167 (by decide +kernel), ⟨by decide, by decide⟩, by decide +kernel, Or.inr (Or.inr ⟨rfl, (RX12, TX12, 85), rfl, by decide, rfl, gm 1821 (by decide +kernel), gm 80 (by decide +kernel)⟩)⟩
set_option maxRecDepth 100000 in
theorem fCF_199 : cfok gP 199 12 1 2 := ⟨mm_199, rfl, gm 1826 (by decide +kernel), gm 167 (by decide +kernel), ⟨by decide, by decide⟩, by decide +kernel, Or.inr (Or.inr ⟨rfl, (RX12, TX12, 85), rfl, by decide, rfl, gm 1825 (by decide +kernel), gm 81 (by decide +kernel)⟩)⟩
set_option maxRecDepth 100000 in
theorem fCF_200 : cfok gP 200 12 1 2 := ⟨mm_200, rfl, gm 1838 (by decide +kernel), gm 167 (by decide +kernel), ⟨by decide, by decide⟩, by decide +kernel, Or.inr (Or.inr ⟨rfl, (RX12, TX12, 85), rfl, by decide, rfl, gm 1837 (by decide +kernel), gm 84 (by decide +kernel)⟩)⟩
set_option maxRecDepth 100000 in
theorem fCF_201 : cfok gP 201 12 2 2 := ⟨mm_201, rfl, gm 1858 (by decide +kernel), gm 167 (by decide +kernel), ⟨by decide, by decide⟩, by decide +kernel, Or.inr (Or.inr ⟨rfl, (RX12, TX12, 85), rfl, by decide, rfl, gm 1857 (by decide +kernel), gm 89 (by decide +kernel)⟩)⟩
set_option maxRecDepth 100000 in
theorem fCF_202 : cfok gP 202 12 0 2 := ⟨mm_202, rfl, gm 1842 (by decide +kernel), gm 167 (by decide +kernel), ⟨by decide, by decide⟩, by decide +kernel, Or.inr (Or.inr ⟨rfl, (RX12, TX12, 85), rfl, by decide, rfl, gm 1841 (by decide +kernel), gm 85 (by decide +kernel)⟩)⟩
set_option maxRecDepth 100000 in
theorem fCF_203 : cfok gP 203 12 1 2 := ⟨mm_203, rfl, gm 1850 (by decide +kernel), gm 167 (by decide +kernel), ⟨by decide, by decide⟩, by decide +kernel, Or.inr (Or.inr ⟨rfl, (RX12, TX12, 85), rfl, by decide, rfl, gm 1849 (by decide +kernel), gm 87 (by decide +kernel)⟩)⟩
set_option maxRecDepth 100000 in
theorem fCF_204 : cfok gP 204 12 0 2 := ⟨mm_204, rfl, gm 1800 (by decide +kernel), gm 167 (by decide +kernel), ⟨by decide, by decide⟩, by decide +kernel, Or.inr (Or.inr ⟨rfl, (RX12, TX12, 85), rfl, by decide, rfl, gm 1798 (by decide +kernel), gm 1799 (by decide +kernel)⟩)⟩
set_option maxRecDepth 100000 in
theorem fCF_205 : cfok gP 205 12 0 2 := ⟨mm_205, rfl, gm 1922 (by decide +kernel), gm 167 (by decide +kernel), ⟨by decide, by decide⟩, by decide +kernel, Or.inr (Or.inr ⟨rfl, (RX12, TX12, 85), rfl, by decide, rfl, gm 1920 (by decide +kernel), gm 1921 (by decide +kernel)⟩)⟩
set_option maxRecDepth 100000 in
theorem fCF_206 : cfok gP 206 12 2 2 := ⟨mm_206, rfl, gm 1834 (by decide +kernel), gm 167 (by decide +kernel), ⟨by decide, by decide⟩, by decide +kernel, Or.inr (Or.inr ⟨rfl, (RX12, TX12, 85), rfl, by decide, rfl, gm 1833 (by decide +kernel), gm 83 (by decide +kernel)⟩)⟩
set_option maxRecDepth 100000 in
theorem fCF_207 : cfok gP 207 12 1 0 := ⟨mm_207, rfl, gm 1914 (by decide +kernel), gm 167 (by decide +kernel), ⟨by decide, by decide⟩, by decide +kernel, Or.inl ⟨rfl, gm 1913 (by decide +kernel)⟩⟩
set_option maxRecDepth 100000 in
theorem fCF_208 : cfok gP 208 12 0 2 := ⟨mm_208, rfl, gm 1830 (by decide +kernel), gm 167 (by decide +kernel), ⟨by decide, by decide⟩, by decide +kernel, Or.inr (Or.inr ⟨rfl, (RX12, TX12, 85), rfl, by decide, rfl, gm 1829 (by decide +kernel), gm 82 (by decide +kernel)⟩)⟩
set_option maxRecDepth 100000 in
theorem fCF_209 : cfok gP 209 12 2 2 := ⟨mm_209, rfl, gm 1883 (by decide +kernel), gm 167 (by decide +kernel), ⟨by decide, by decide⟩, by decide +kernel, Or.inr (Or.inr ⟨rfl, (RX12, TX12, 85), rfl, by decide, rfl, gm 1882 (by decide +kernel), gm 95 (by decide +kernel)⟩)⟩
set_option maxRecDepth 100000 in
theorem fCF_210 : cfok gP 210 12 0 2 := ⟨mm_210, rfl, gm 1846 (by decide +kernel), gm 167 (by decide +kernel), ⟨by decide, by decide⟩, by decide +kernel, Or.inr (Or.inr ⟨rfl, (RX12, TX12, 85), rfl, by decide, rfl, gm 1845 (by decide +kernel), gm 86 (by decide +kernel)⟩)⟩
set_option maxRecDepth 100000 in
theorem fCF_211 : cfok gP 211 12 1 2 := ⟨mm_211, rfl, gm 1854 (by decide +kernel), gm 167 (by decide +kernel), ⟨by decide, by decide⟩, by decide +kernel, Or.inr (Or.inr ⟨rfl, (RX12, TX12, 85), rfl, by decide, rfl, gm 1853 (by decide +kernel), gm 88 (by decide +kernel)⟩)⟩
set_option maxRecDepth 100000 in
theorem fCF_212 : cfok gP 212 12 0 2 := ⟨mm_212, rfl, gm 1866 (by decide +kernel), gm 167 (by decide +kernel), ⟨by decide, by decide⟩, by decide +kernel, Or.inr (Or.inr ⟨rfl, (RX12, TX12, 85), rfl, by decide, rfl, gm 1865 (by decide +kernel), gm 91 (by decide +kernel)⟩)⟩
set_option maxRecDepth 100000 in
theorem fCF_213 : cfok gP 213 12 0 2 := ⟨mm_213, rfl, gm 1871 (by decide +kernel), gm 167 (by decide +kernel), ⟨by decide, by decide⟩, by decide +kernel, Or.inr (Or.inr ⟨rfl, (RX12, TX12, 85), rfl, by decide, rfl, gm 1870 (by decide +kernel), gm 92 (by decide +kernel)⟩)⟩
set_option maxRecDepth 100000 in
theorem fCF_214 : cfok gP 214 12 0 2 := ⟨mm_214, rfl, gm 1862 (by decide +kernel), gm 167 (by decide +kernel), ⟨by decide, by decide⟩, by decide +kernel, Or.inr (Or.inr ⟨rfl, (RX12, TX12, 85), rfl, by decide, rfl, gm 1861 (by decide +kernel), gm 90 (by decide +kernel)⟩)⟩
set_option maxRecDepth 100000 in
theorem fCF_215 : cfok gP 215 12 2 2 := ⟨mm_215, rfl, gm 1887 (by decide +kernel), gm 167 (by decide +kernel), ⟨by decide, by decide⟩, by decide +kernel, Or.inr (Or.inr ⟨rfl, (RX12, TX12, 85), rfl, by decide, rfl, gm 1886 (by decide +kernel), gm 96 (by decide +kernel)⟩)⟩
set_option maxRecDepth 100000 in
theorem fCF_216 : cfok gP 216 12 1 2 := ⟨mm_216, rfl, gm 1918 (by decide +kernel), gm 167 (by decide +kernel), ⟨by decide, by decide⟩, by decide +kernel, Or.inr (Or.inr ⟨rfl, (RX12, TX12, 85), rfl, by decide, rfl, gm 1917 (by decide +kernel), gm 103 (by decide +kernel)⟩)⟩
set_option maxRecDepth 100000 in
theorem fCF_217 : cfok gP 217 12 0 2 := ⟨mm_217, rfl, gm 1875 (by decide +kernel), gm 167 (by decide +kernel), ⟨by decide, by decide⟩, by decide +kernel, Or.inr (Or.inr ⟨rfl, (RX12, TX12, 85), rfl, by decide, rfl, gm 1874 (by decide +kernel), gm 93 (by decide +kernel)⟩)⟩
set_option maxRecDepth 100000 in
theorem fCF_218 : cfok gP 218 12 0 2 := ⟨mm_218, rfl, gm 1879 (by decide +kernel), gm 167 (by decide +kernel), ⟨by decide, by decide⟩, by decide +kernel, Or.inr (Or.inr ⟨rfl, (RX12, TX12, 85), rfl, by decide, rfl, gm 1878 (by decide +kernel), gm 94 (by decide +kernel)⟩)⟩
set_option maxRecDepth 100000 in
theorem fCF_219 : cfok gP 219 12 0 2 := ⟨mm_219, rfl, gm 1891 (by decide +kernel), gm 167 (by decide +kernel), ⟨by decide, by decide⟩, by decide +kernel, Or.inr (Or.inr ⟨rfl, (RX12, TX12, 85), rfl, by decide, rfl, gm 1890 (by decide +kernel), gm 97 (by decide +kernel)⟩)⟩
set_option maxRecDepth 100000 in
theorem fCF_220 : cfok gP 220 12 0 2 := ⟨mm_220, rfl, gm 1911 (by decide +kernel), gm 167 (by decide +kernel), ⟨by decide, by decide⟩, by decide +kernel, Or.inr (Or.inr ⟨rfl, (RX12, TX12, 85), rfl, by decide, rfl, gm 1910 (by decide +kernel), gm 102 (by decide +kernel)⟩)⟩
set_option maxRecDepth 100000 in
theorem fCF_221 : cfok gP 221 12 2 2 := ⟨mm_221, rfl, gm 1903 (by decide +kernel), gm 167 (by decide +kernel), ⟨by decide, by decide⟩, by decide +kernel, Or.inr (Or.inr ⟨rfl, (RX12, TX12, 85), rfl, by decide, rfl, gm 1902 (by decide +kernel), gm 100 (by decide +kernel)⟩)⟩
set_option maxRecDepth 100000 in
theorem fCF_222 : cfok gP 222 12 1 2 := ⟨mm_222, rfl, gm 1907 (by decide +kernel), gm 167 (by decide +kernel), ⟨by decide, by decide⟩, by decide +kernel, Or.inr (Or.inr ⟨rfl, (RX12, TX12, 85), rfl, by decide, rfl, gm 1906 (by decide +kernel), gm 101 (by decide +kernel)⟩)⟩
set_option maxRecDepth 100000 in
theorem fCF_223 : cfok gP 223 12 0 2 := ⟨mm_223, rfl, gm 1895 (by decide +kernel), gm 167 (by decide +kernel), ⟨by decide, by decide⟩, by decide +kernel, Or.inr (Or.inr ⟨rfl, (RX12, TX12, 85), rfl, by decide, rfl, gm 1894 (by decide +kernel), gm 98 (by decide +kernel)⟩)⟩
set_option maxRecDepth 100000 in
theorem fCF_224 : cfok gP 224 12 0 2 := ⟨mm_224, rfl, gm 1899 (by decide +kernel), gm 167 (by decide +kernel), ⟨by decide, by decide⟩, by decide +kernel, Or.inr (Or.inr ⟨rfl, (RX12, TX12, 85), rfl, by decide, rfl, gm 1898 (by decide +kernel), gm 99 (by decide +kernel)⟩)⟩
set_option maxRecDepth 100000 in
theorem fCF_225 : cfok gP 225 12 2 2 := ⟨mm_225, rfl, gm 2064 (by decide +kernel), gm 167 (by decide +kernel), ⟨by decide, by decide⟩, by decide +kernel, Or.inr (Or.inr ⟨rfl, (RX12, TX12, 85), rfl, by decide, rfl, gm 2063 (by decide +kernel), gm 124 (by decide +kernel)⟩)⟩
set_option maxRecDepth 100000 in
theorem fCF_226 : cfok gP 226 12 3 0 := ⟨mm_226, rfl, gm 1933 (by decide +kernel), gm 167 (by decide +kernel), ⟨by decide, by decide⟩, by decide +kernel, Or.inl ⟨rfl, gm 1932 (by decide +kernel)⟩⟩
set_option maxRecDepth 100000 in
theorem fCF_227 : cfok gP 227 12 0 2 := ⟨mm_227, rfl, gm 1524 (by decide +kernel), gm 167 (by decide +kernel), ⟨by decide, by decide⟩, by decide +kernel, Or.inr (Or.inr ⟨rfl, (RX12, TX12, 85), rfl, by decide, rfl, gm 1523 (by decide +kernel), gm 74 (by decide +kernel)⟩)⟩
set_option maxRecDepth 100000 in
theorem fCF_228 : cfok gP 228 12 0 2 := ⟨mm_228, rfl, gm 1528 (by decide +kernel), gm 167 (by decide +kernel), ⟨by decide, by decide⟩, by decide +kernel, Or.inr (Or.inr ⟨rfl, (RX12, TX12, 85), rfl, by decide, rfl, gm 1527 (by decide +kernel), gm 75 (by decide +kernel)⟩)⟩
set_option maxRecDepth 100000 in
theorem fCF_229 : cfok gP 229 12 0 2 := ⟨mm_229, rfl, gm 1950 (by decide +kernel), gm 167 (by decide +kernel), ⟨by decide, by decide⟩, by decide +kernel, Or.inr (Or.inr ⟨rfl, (RX12, TX12, 85), rfl, by decide, rfl, gm 1949 (by decide +kernel), gm 105 (by decide +kernel)⟩)⟩
set_option maxRecDepth 100000 in
theorem fCF_230 : cfok gP 230 12 1 2 := ⟨mm_230, rfl, gm 1930 (by decide +kernel), gm 167 (by decide +kernel), ⟨by decide, by decide⟩, by decide +kernel, Or.inr (Or.inr ⟨rfl, (RX12, TX12, 85), rfl, by decide, rfl, gm 1929 (by decide +kernel), gm 104 (by decide +kernel)⟩)⟩
set_option maxRecDepth 100000 in
theorem fCF_231 : cfok gP 231 12 1 2 := ⟨mm_231, rfl, gm 2020 (by decide +kernel), gm 167 (by decide +kernel), ⟨by decide, by decide⟩, by decide +kernel, Or.inr (Or.inr ⟨rfl, (RX12, TX12, 85), rfl, by decide, rfl, gm 2019 (by decide +kernel), gm 117 (by decide +kernel)⟩)⟩
set_option maxRecDepth 100000 in
theorem fCF_232 : cfok gP 232 12 2 2 := ⟨mm_232, rfl, gm 2112 (by decide +kernel), gm 167 (by decide +kernel), ⟨by decide, by decide⟩, by decide +kernel, Or.inr (Or.inr ⟨rfl, (RX12, TX12, 85), rfl, by decide, rfl, gm 2111 (by decide +kernel), gm 130 (by decide +kernel)⟩)⟩
set_option maxRecDepth 100000 in
theorem fCF_233 : cfok gP 233 12 1 2 := ⟨mm_233, rfl, gm 2044 (by decide +kernel), gm 167 (by decide +kernel), ⟨by decide, by decide⟩, by decide +kernel, Or.inr (Or.inr ⟨rfl, (RX12, TX12, 85), rfl, by decide, rfl, gm 2043 (by decide +kernel), gm 119 (by decide +kernel)⟩)⟩
set_option maxRecDepth 100000 in
theorem fCF_234 : cfok gP 234 12 0 2 := ⟨mm_234, rfl, gm 2056 (by decide +kernel), gm 167 (by decide +kernel), ⟨by decide, by decide⟩, by decide +kernel, Or.inr (Or.inr ⟨rfl, (RX12, TX12, 85), rfl, by decide, rfl, gm 2055 (by decide +kernel), gm 122 (by decide +kernel)⟩)⟩
set_option maxRecDepth 100000 in
theorem fCF_235 : cfok gP 235 12 1 0 := ⟨mm_235, rfl, gm 1973 (by decide +kernel), gm 167 (by decide +kernel), ⟨by decide, by decide⟩, by decide +kernel, Or.inl ⟨rfl, gm 1972 (by decide +kernel)⟩⟩
set_option maxRecDepth 100000 in
theorem fCF_236 : cfok gP 236 12 1 0 := ⟨mm_236, rfl, gm 1939 (by decide +kernel), gm 167 (by decide +kernel), ⟨by decide, by decide⟩, by decide +kernel, Or.inl ⟨rfl, gm 1938 (by decide +kernel)⟩⟩
set_option maxRecDepth 100000 in
theorem fCF_237 : cfok gP 237 12 2 0 := ⟨mm_237, rfl, gm 1942 (by decide +kernel), gm 167 (by decide +kernel), ⟨by decide, by decide⟩, by decide +kernel, Or.inl ⟨rfl, gm 1941 (by decide +kernel)⟩⟩
set_option maxRecDepth 100000 in
theorem fCF_238 : cfok gP 238 12 3 2 := ⟨mm_238, rfl, gm 1966 (by decide +kernel), gm 167 (by decide +kernel), ⟨by decide, by decide⟩, by decide +kernel, Or.inr (Or.inr ⟨rfl, (RX12, TX12, 85), rfl, by decide, rfl, gm 1965 (by decide +kernel), gm 109 (by decide +kernel)⟩)⟩
set_option maxRecDepth 100000 in
theorem fCF_239 : cfok gP 239 12 2 2 := ⟨mm_239, rfl, gm 1962 (by decide +kernel), gm 167 (by decide +kernel), ⟨by decide, by decide⟩, by decide +kernel, Or.inr (Or.inr ⟨rfl, (RX12, TX12, 85), rfl, by decide, rfl, gm 1961 (by decide +kernel), gm 108 (by decide +kernel)⟩)⟩
set_option maxRecDepth 100000 in
theorem fCF_240 : cfok gP 240 12 3 2 := ⟨mm_240, rfl, gm 1958 (by decide +kernel), gm 167 (by decide +kernel), ⟨by decide, by decide⟩, by decide +kernel, Or.inr (Or.inr ⟨rfl, (RX12, TX12, 85), rfl, by decide, rfl, gm 1957 (by decide +kernel), gm 107 (by decide +kernel)⟩)⟩
set_option maxRecDepth 100000 in
theorem fCF_241 : cfok gP 241 12 1 2 := ⟨mm_241, rfl, gm 1954 (by decide +kernel), gm 167 (by decide +kernel), ⟨by decide, by decide⟩, by decide +kernel, Or.inr (Or.inr ⟨rfl, (RX12, TX12, 85), rfl, by decide, rfl, gm 1953 (by decide +kernel), gm 106 (by decide +kernel)⟩)⟩
set_option maxRecDepth 100000 in
theorem fCF_242 : cfok gP 242 12 2 0 := ⟨mm_242, rfl, gm 1936 (by decide +kernel), gm 167 (by decide +kernel), ⟨by decide, by decide⟩, by decide +kernel, Or.inl ⟨rfl, gm 1935 (by decide +kernel)⟩⟩
set_option maxRecDepth 100000 in
theorem fCF_243 : cfok gP 243 12 2 2 := ⟨mm_243, rfl, gm 1926 (by decide +kernel), gm 167 (by decide +kernel), ⟨by decide, by decide⟩, by decide +kernel, Or.inr (Or.inr ⟨rfl, (RX12, TX12, 85), rfl, by decide, rfl, gm 1924 (by decide +kernel), gm 1925 (by decide +kernel)⟩)⟩
set_option maxRecDepth 100000 in
theorem fCF_244 : cfok gP 244 12 2 2 := ⟨mm_244, rfl, gm 1946 (by decide +kernel), gm 167 (by decide +kernel), ⟨by decide, by decide⟩, by decide +kernel, Or.inr (Or.inr ⟨rfl, (RX12, TX12, 85), rfl, by decide, rfl, gm 1944 (by decide +kernel), gm 1945 (by decide +kernel)⟩)⟩
set_option maxRecDepth 100000 in
theorem fCF_245 : cfok gP 245 12 3 2 := ⟨mm_245, rfl, gm 1970 (by decide +kernel), gm 167 (by decide +kernel), ⟨by decide, by decide⟩, by decide +kernel, Or.inr (Or.inr ⟨rfl, (RX12, TX12, 85), rfl, by decide, rfl, gm 1968 (by decide +kernel), gm 1969 (by decide +kernel)⟩)⟩
set_option maxRecDepth 100000 in
theorem fCF_246 : cfok gP 246 12 1 2 := ⟨mm_246, rfl, gm 1977 (by decide +kernel), gm 167 (by decide +kernel), ⟨by decide, by decide⟩, by decide +kernel, Or.inr (Or.inr ⟨rfl, (RX12, TX12, 85), rfl, by decide, rfl, gm 1975 (by decide +kernel), gm 1976 (by decide +kernel)⟩)⟩
set_option maxRecDepth 100000 in
theorem fCF_247 : cfok gP 247 12 2 2 := ⟨mm_247, rfl, gm 2001 (by decide +kernel), gm 167 (by decide +kernel), ⟨by decide, by decide⟩, by decide +kernel, Or.inr (Or.inr ⟨rfl, (RX12, TX12, 85), rfl, by decide, rfl, gm 2000 (by decide +kernel), gm 114 (by decide +kernel)⟩)⟩
set_option maxRecDepth 100000 in
theorem fCF_248 : cfok gP 248 12 0 2 := ⟨mm_248, rfl, gm 1985 (by decide +kernel), gm 167 (by decide +kernel), ⟨by decide, by decide⟩, by decide +kernel, Or.inr (Or.inr ⟨rfl, (RX12, TX12, 85), rfl, by decide, rfl, gm 1984 (by decide +kernel), gm 110 (by decide +kernel)⟩)⟩
set_option maxRecDepth 100000 in
theorem fCF_249 : cfok gP 249 12 0 2 := ⟨mm_249, rfl, gm 1989 (by decide +kernel), gm 167 (by decide +kernel), ⟨by decide, by decide⟩, by decide +kernel, Or.inr (Or.inr ⟨rfl, (RX12, TX12, 85), rfl, by decide, rfl, gm 1988 (by decide +kernel), gm 111 (by decide +kernel)⟩)⟩
set_option maxRecDepth 100000 in
theorem fCF_250 : cfok gP 250 12 0 2 := ⟨mm_250, rfl, gm 1997 (by decide +kernel), gm 167 (by decide +kernel), ⟨by decide, by decide⟩, by decide +kernel, Or.inr (Or.inr ⟨rfl, (RX12, TX12, 85), rfl, by decide, rfl, gm 1996 (by decide +kernel), gm 113 (by decide +kernel)⟩)⟩
set_option maxRecDepth 100000 in
theorem fCF_251 : cfok gP 251 12 2 0 := ⟨mm_251, rfl, gm 2008 (by decide +kernel), gm 167 (by decide +kernel), ⟨by decide, by decide⟩, by decide +kernel, Or.inl ⟨rfl, gm 2007 (by decide +kernel)⟩⟩
set_option maxRecDepth 100000 in
theorem fCF_252 : cfok gP 252 12 0 2 := ⟨mm_252, rfl, gm 2005 (by decide +kernel), gm 167 (by decide +kernel), ⟨by decide, by decide⟩, by decide +kernel, Or.inr (Or.inr ⟨rfl, (RX12, TX12, 85), rfl, by decide, rfl, gm 2004 (by decide +kernel), gm 115 (by decide +kernel)⟩)⟩
set_option maxRecDepth 100000 in
theorem fCF_253 : cfok gP 253 12 0 2 := ⟨mm_253, rfl, gm 2012 (by decide +kernel), gm 167 (by decide +kernel), ⟨by decide, by decide⟩, by decide +kernel, Or.inr (Or.inr ⟨rfl, (RX12, TX12, 85), rfl, by decide, rfl, gm 2011 (by decide +kernel), gm 116 (by decide +kernel)⟩)⟩
set_option maxRecDepth 100000 in
theorem fCF_254 : cfok gP 254 12 1 2 := ⟨mm_254, rfl, gm 1993 (by decide +kernel), gm 167 (by decide +kernel), ⟨by decide, by decide⟩, by decide +kernel, Or.inr (Or.inr ⟨rfl, (RX12, TX12, 85), rfl, by decide, rfl, gm 1992 (by decide +kernel), gm 112 (by decide +kernel)⟩)⟩
set_option maxRecDepth 100000 in
theorem fCF_255 : cfok gP 255 12 2 2 := ⟨mm_255, rfl, gm 1981 (by decide +kernel), gm 167 (by decide +kernel), ⟨by decide, by decide⟩, by decide +kernel, Or.inr (Or.inr ⟨rfl, (RX12, TX12, 85), rfl, by decide, rfl, gm 1979 (by decide +kernel), gm 1980 (by decide +kernel)⟩)⟩
set_option maxRecDepth 100000 in
theorem fCF_256 : cfok gP 256 12 1 2 := ⟨mm_256, rfl, gm 2016 (by decide +kernel), gm 167 (by decide +kernel), ⟨by decide, by decide⟩, by decide +kernel, Or.inr (Or.inr ⟨rfl, (RX12, TX12, 85), rfl, by decide, rfl, gm 2014 (by decide +kernel), gm 2015 (by decide +kernel)⟩)⟩
set_option maxRecDepth 100000 in
theorem fCF_257 : cfok gP 257 12 1 2 := ⟨mm_257, rfl, gm 2024 (by decide +kernel), gm 167 (by decide +kernel), ⟨by decide, by decide⟩, by decide +kernel, Or.inr (Or.inr ⟨rfl, (RX12, TX12, 85), rfl, by decide, rfl, gm 2022 (by decide +kernel), gm 2023 (by decide +kernel)⟩)⟩
set_option maxRecDepth 100000 in
theorem fCF_258 : cfok gP 258 12 0 2 := ⟨mm_258, rfl, gm 2032 (by decide +kernel), gm 167 (by decide +kernel), ⟨by decide, by decide⟩, by decide +kernel, Or.inr (Or.inr ⟨rfl, (RX12, TX12, 85), rfl, by decide, rfl, gm 2031 (by decide +kernel), gm 118 (by decide +kernel)⟩)⟩
set_option maxRecDepth 100000 in
theorem fCF_259 : cfok gP 259 12 1 2 := ⟨mm_259, rfl, gm 2028 (by decide +kernel), gm 167 (by decide +kernel), ⟨by decide, by decide⟩, by decide +kernel, Or.inr (Or.inr ⟨rfl, (RX12, TX12, 85), rfl, by decide, rfl, gm 2026 (by decide +kernel), gm 2027 (by decide +kernel)⟩)⟩
set_option maxRecDepth 100000 in
theorem fCF_260 : cfok gP 260 12 2 2 := ⟨mm_260, rfl, gm 2036 (by decide +kernel), gm 167 (by decide +kernel), ⟨by decide, by decide⟩, by decide +kernel, Or.inr (Or.inr ⟨rfl, (RX12, TX12, 85), rfl, by decide, rfl, gm 2034 (by decide +kernel), gm 2035 (by decide +kernel)⟩)⟩
set_option maxRecDepth 100000 in
theorem fCF_261 : cfok gP 261 12 0 2 := ⟨mm_261, rfl, gm 2060 (by decide +kernel), gm 167 (by decide +kernel), ⟨by decide, by decide⟩, by decide +kernel, Or.inr (Or.inr ⟨rfl, (RX12, TX12, 85), rfl, by decide, rfl, gm 2059 (by decide +kernel), gm 123 (by decide +kernel)⟩)⟩
set_option maxRecDepth 100000 in
theorem fCF_262 : cfok gP 262 12 2 2 := ⟨mm_262, rfl, gm 2052 (by decide +kernel), gm 167 (by decide +kernel), ⟨by decide, by decide⟩, by decide +kernel, Or.inr (Or.inr ⟨rfl, (RX12, TX12, 85), rfl, by decide, rfl, gm 2051 (by decide +kernel), gm 121 (by decide +kernel)⟩)⟩
set_option maxRecDepth 100000 in
theorem fCF_263 : cfok gP 263 12 1 2 := ⟨mm_263, rfl, gm 2048 (by decide +kernel), gm 167 (by decide +kernel), ⟨by decide, by decide⟩, by decide +kernel, Or.inr (Or.inr ⟨rfl, (RX12, TX12, 85), rfl, by decide, rfl, gm 2047 (by decide +kernel), gm 120 (by decide +kernel)⟩)⟩
set_option maxRecDepth 100000 in
theorem fCF_264 : cfok gP 264 12 1 2 := ⟨mm_264, rfl, gm 2040 (by decide +kernel), gm 167 (by decide +kernel), ⟨by decide, by decide⟩, by decide +kernel, Or.inr (Or.inr ⟨rfl, (RX12, TX12, 85), rfl, by decide, rfl, gm 2038 (by decide +kernel), gm 2039 (by decide +kernel)⟩)⟩
set_option maxRecDepth 100000 in
theorem fCF_265 : cfok gP 265 12 2 2 := ⟨mm_265, rfl, gm 2080 (by decide +kernel), gm 167 (by decide +kernel), ⟨by decide, by decide⟩, by decide +kernel, Or.inr (Or.inr ⟨rfl, (RX12, TX12, 85), rfl, by decide, rfl, gm 2079 (by decide +kernel), gm 127 (by decide +kernel)⟩)⟩
set_option maxRecDepth 100000 in
theorem fCF_266 : cfok gP 266 12 2 2 := ⟨mm_266, rfl, gm 2076 (by decide +kernel), gm 167 (by decide +kernel), ⟨by decide, by decide⟩, by decide +kernel, Or.inr (Or.inr ⟨rfl, (RX12, TX12, 85), rfl, by decide, rfl, gm 2075 (by decide +kernel), gm 126 (by decide +kernel)⟩)⟩
set_option maxRecDepth 100000 in
theorem fCF_267 : cfok gP 267 12 1 2 := ⟨mm_267, rfl, gm 2072 (by decide +kernel), gm 167 (by decide +kernel), ⟨by decide, by decide⟩, by decide +kernel, Or.inr (Or.inr ⟨rfl, (RX12, TX12, 85), rfl, by decide, rfl, gm 2071 (by decide +kernel), gm 125 (by decide +kernel)⟩)⟩
set_option maxRecDepth 100000 in
theorem fCF_268 : cfok gP 268 12 0 2 := ⟨mm_268, rfl, gm 2236 (by decide +kernel), gm 167 (by decide +kernel), ⟨by decide, by decide⟩, by decide +kernel, Or.inr (Or.inr ⟨rfl, (RX12, TX12, 85), rfl, by decide, rfl, gm 2235 (by decide +kernel), gm 145 (by decide +kernel)⟩)⟩
set_option maxRecDepth 100000 in
theorem fCF_269 : cfok gP 269 12 1 2 := ⟨mm_269, rfl, gm 2068 (by decide +kernel), gm 167 (by decide +kernel), ⟨by decide, by decide⟩, by decide +kernel, Or.inr (Or.inr ⟨rfl, (RX12, TX12, 85), rfl, by decide, rfl, gm 2066 (by decide +kernel), gm 2067 (by decide +kernel)⟩)⟩
set_option maxRecDepth 100000 in
theorem fCF_270 : cfok gP 270 12 2 0 := ⟨mm_270, rfl, gm 2094 (by decide +kernel), gm 167 (by decide +kernel), ⟨by decide, by decide⟩, by decide +kernel, Or.inl ⟨rfl, gm 2093 (by decide +kernel)⟩⟩
set_option maxRecDepth 100000 in
theorem fCF_271 : cfok gP 271 12 3 0 := ⟨mm_271, rfl, gm 2091 (by decide +kernel), gm 167 (by decide +kernel), ⟨by decide, by decide⟩, by decide +kernel, Or.inl ⟨rfl, gm 2090 (by decide +kernel)⟩⟩
set_option maxRecDepth 100000 in
theorem fCF_272 : cfok gP 272 12 1 2 := ⟨mm_272, rfl, gm 2099 (by decide +kernel), gm 167 (by decide +kernel), ⟨by decide, by decide⟩, by decide +kernel, Or.inr (Or.inr ⟨rfl, (RX12, TX12, 85), rfl, by decide, rfl, gm 2098 (by decide +kernel), gm 129 (by decide +kernel)⟩)⟩
set_option maxRecDepth 100000 in
theorem fCF_273 : cfok gP 273 12 0 2 := ⟨mm_273, rfl, gm 2088 (by decide +kernel), gm 167 (by decide +kernel), ⟨by decide, by decide⟩, by decide +kernel, Or.inr (Or.inr ⟨rfl, (RX12, TX12, 85), rfl, by decide, rfl, gm 2087 (by decide +kernel), gm 128 (by decide +kernel)⟩)⟩
set_option maxRecDepth 100000 in
theorem fCF_274 : cfok gP 274 12 1 2 := ⟨mm_274, rfl, gm 2084 (by decide +kernel), gm 167 (by decide +kernel), ⟨by decide, by decide⟩, by decide +kernel, Or.inr (Or.inr ⟨rfl, (RX12, TX12, 85), rfl, by decide, rfl, gm 2082 (by decide +kernel), gm 2083 (by decide +kernel)⟩)⟩
set_option maxRecDepth 100000 in
theorem fCF_275 : cfok gP 275 12 0 2 := ⟨mm_275, rfl, gm 2104 (by decide +kernel), gm 167 (by decide +kernel), ⟨by decide, by decide⟩, by decide +kernel, Or.inr (Or.inr ⟨rfl, (RX12, TX12, 85), rfl, by decide, rfl, gm 2102 (by decide +kernel), gm 2103 (by decide +kernel)⟩)⟩
set_option maxRecDepth 100000 in
theorem fCF_276 : cfok gP 276 12 2 2 := ⟨mm_276, rfl, gm 2108 (by decide +kernel), gm 167 (by decide +kernel), ⟨by decide, by decide⟩, by decide +kernel, Or.inr (Or.inr ⟨rfl, (RX12, TX12, 85), rfl, by decide, rfl, gm 2106 (by decide +kernel), gm 2107 (by decide +kernel)⟩)⟩
set_option maxRecDepth 100000 in
theorem fCF_277 : cfok gP 277 12 2 2 := ⟨mm_277, rfl, gm 2116 (by decide +kernel), gm 167 (by decide +kernel), ⟨by decide, by decide⟩, by decide +kernel, Or.inr (Or.inr ⟨rfl, (RX12, TX12, 85), rfl, by decide, rfl, gm 2114 (by decide +kernel), gm 2115 (by decide +kernel)⟩)⟩
set_option maxRecDepth 100000 in
theorem fCF_278 : cfok gP 278 12 3 2 := ⟨mm_278, rfl, gm 2124 (by decide +kernel), gm 167 (by decide +kernel), ⟨by decide, by decide⟩, by decide +kernel, Or.inr (Or.inr ⟨rfl, (RX12, TX12, 85), rfl, by decide, rfl, gm 2123 (by decide +kernel), gm 131 (by decide +kernel)⟩)⟩
set_option maxRecDepth 100000 in
theorem fCF_279 : cfok gP 279 12 3 2 := ⟨mm_279, rfl, gm 2164 (by decide +kernel), gm 167 (by decide +kernel), ⟨by decide, by decide⟩, by decide +kernel, Or.inr (Or.inr ⟨rfl, (RX12, TX12, 85), rfl, by decide, rfl, gm 2163 (by decide +kernel), gm 137 (by decide +kernel)⟩)⟩
set_option maxRecDepth 100000 in
theorem fCF_280 : cfok gP 280 12 1 2 := ⟨mm_280, rfl, gm 2132 (by decide +kernel), gm 167 (by decide +kernel), ⟨by decide, by decide⟩, by decide +kernel, Or.inr (Or.inr ⟨rfl, (RX12, TX12, 85), rfl, by decide, rfl, gm 2131 (by decide +kernel), gm 132 (by decide +kernel)⟩)⟩
set_option maxRecDepth 100000 in
theorem fCF_281 : cfok gP 281 12 2 2 := ⟨mm_281, rfl, gm 2120 (by decide +kernel), gm 167 (by decide +kernel), ⟨by decide, by decide⟩, by decide +kernel, Or.inr (Or.inr ⟨rfl, (RX12, TX12, 85), rfl, by decide, rfl, gm 2118 (by decide +kernel), gm 2119 (by decide +kernel)⟩)⟩
set_option maxRecDepth 100000 in
theorem fCF_282 : cfok gP 282 12 0 2 := ⟨mm_282, rfl, gm 2140 (by decide +kernel), gm 167 (by decide +kernel), ⟨by decide, by decide⟩, by decide +kernel, Or.inr (Or.inr ⟨rfl, (RX12, TX12, 85), rfl, by decide, rfl, gm 2139 (by decide +kernel), gm 134 (by decide +kernel)⟩)⟩
set_option maxRecDepth 100000 in
theorem fCF_283 : cfok gP 283 12 0 2 := ⟨mm_283, rfl, gm 2148 (by decide +kernel), gm 167 (by decide +kernel), ⟨by decide, by decide⟩, by decide +kernel, Or.inr (Or.inr ⟨rfl, (RX12, TX12, 85), rfl, by decide, rfl, gm 2147 (by decide +kernel), gm 136 (by decide +kernel)⟩)⟩
set_option maxRecDepth 100000 in
theorem fCF_284 : cfok gP 284 12 1 2 := ⟨mm_284, rfl, gm 2144 (by decide +kernel), gm 167 (by decide +kernel), ⟨by decide, by decide⟩, by decide +kernel, Or.inr (Or.inr ⟨rfl, (RX12, TX12, 85), rfl, by decide, rfl, gm 2143 (by decide +kernel), gm 135 (by decide +kernel)⟩)⟩
set_option maxRecDepth 100000 in
theorem fCF_285 : cfok gP 285 12 1 2 := ⟨mm_285, rfl, gm 2136 (by decide +kernel), gm 167 (by decide +kernel), ⟨by decide, by decide⟩, by decide +kernel, Or.inr (Or.inr ⟨rfl, (RX12, TX12, 85), rfl, by decide, rfl, gm 2135 (by decide +kernel), gm 133 (by decide +kernel)⟩)⟩
set_option maxRecDepth 100000 in
theorem fCF_286 : cfok gP 286 12 1 2 := ⟨mm_286, rfl, gm 2128 (by decide +kernel), gm 167 (by decide +kernel), ⟨by decide, by decide⟩, by decide +kernel, Or.inr (Or.inr ⟨rfl, (RX12, TX12, 85), rfl, by decide, rfl, gm 2126 (by decide +kernel), gm 2127 (by decide +kernel)⟩)⟩
set_option maxRecDepth 100000 in
theorem fCF_287 : cfok gP 287 12 2 2 := ⟨mm_287, rfl, gm 2152 (by decide +kernel), gm 167 (by decide +kernel), ⟨by decide, by decide⟩, by decide +kernel, Or.inr (Or.inr ⟨rfl, (RX12, TX12, 85), rfl, by decide, rfl, gm 2150 (by decide +kernel), gm 2151 (by decide +kernel)⟩)⟩
set_option maxRecDepth 100000 in
theorem fCF_288 : cfok gP 288 12 1 2 := ⟨mm_288, rfl, gm 2156 (by decide +kernel), gm 167 (by decide +kernel), ⟨by decide, by decide⟩, by decide +kernel, Or.inr (Or.inr ⟨rfl, (RX12, TX12, 85), rfl, by decide, rfl, gm 2154 (by decide +kernel), gm 2155 (by decide +kernel)⟩)⟩
set_option maxRecDepth 100000 in
theorem fCF_289 : cfok gP 289 12 3 2 := ⟨mm_289, rfl, gm 2160 (by decide +kernel), gm 167 (by decide +kernel), ⟨by decide, by decide⟩, by decide +kernel, Or.inr (Or.inr ⟨rfl, (RX12, TX12, 85), rfl, by decide, rfl, gm 2158 (by decide +kernel), gm 2159 (by decide +kernel)⟩)⟩
set_option maxRecDepth 100000 in
theorem fCF_290 : cfok gP 290 12 1 2 := ⟨mm_290, rfl, gm 2176 (by decide +kernel), gm 167 (by decide +kernel), ⟨by decide, by decide⟩, by decide +kernel, Or.inr (Or.inr ⟨rfl, (RX12, TX12, 85), rfl, by decide, rfl, gm 2175 (by decide +kernel), gm 139 (by decide +kernel)⟩)⟩
set_option maxRecDepth 100000 in
theorem fCF_291 : cfok gP 291 12 1 2 := ⟨mm_291, rfl, gm 2172 (by decide +kernel), gm 167 (by decide +kernel), ⟨by decide, by decide⟩, by decide +kernel, Or.inr (Or.inr ⟨rfl, (RX12, TX12, 85), rfl, by decide, rfl, gm 2171 (by decide +kernel), gm 138 (by decide +kernel)⟩)⟩
set_option maxRecDepth 100000 in
theorem fCF_292 : cfok gP 292 12 1 2 := ⟨mm_292, rfl, gm 2168 (by decide +kernel), gm 167 (by decide +kernel), ⟨by decide, by decide⟩, by decide +kernel, Or.inr (Or.inr ⟨rfl, (RX12, TX12, 85), rfl, by decide, rfl, gm 2166 (by decide +kernel), gm 2167 (by decide +kernel)⟩)⟩
set_option maxRecDepth 100000 in
theorem fCF_293 : cfok gP 293 12 2 2 := ⟨mm_293, rfl, gm 2184 (by decide +kernel), gm 167 (by decide +kernel), ⟨by decide, by decide⟩, by decide +kernel, Or.inr (Or.inr ⟨rfl, (RX12, TX12, 85), rfl, by decide, rfl, gm 2183 (by decide +kernel), gm 140 (by decide +kernel)⟩)⟩
set_option maxRecDepth 100000 in
theorem fCF_294 : cfok gP 294 12 2 2 := ⟨mm_294, rfl, gm 2180 (by decide +kernel), gm 167 (by decide +kernel), ⟨by decide, by decide⟩, by decide +kernel, Or.inr (Or.inr ⟨rfl, (RX12, TX12, 85), rfl, by decide, rfl, gm 2178 (by decide +kernel), gm 2179 (by decide +kernel)⟩)⟩
set_option maxRecDepth 100000 in
theorem fCF_295 : cfok gP 295 12 3 2 := ⟨mm_295, rfl, gm 2192 (by decide +kernel), gm 167 (by decide +kernel), ⟨by decide, by decide⟩, by decide +kernel, Or.inr (Or.inr ⟨rfl, (RX12, TX12, 85), rfl, by decide, rfl, gm 2191 (by decide +kernel), gm 141 (by decide +kernel)⟩)⟩
set_option maxRecDepth 100000 in
theorem fCF_296 : cfok gP 296 12 1 2 := ⟨mm_296, rfl, gm 2188 (by decide +kernel), gm 167 (by decide +kernel), ⟨by decide, by decide⟩, by decide +kernel, Or.inr (Or.inr ⟨rfl, (RX12, TX12, 85), rfl, by decide, rfl, gm 2186 (by decide +kernel), gm 2187 (by decide +kernel)⟩)⟩
set_option maxRecDepth 100000 in
theorem fCF_297 : cfok gP 297 12 2 2 := ⟨mm_297, rfl, gm 2200 (by decide +kernel), gm 167 (by decide +kernel), ⟨by decide, by decide⟩, by decide +kernel, Or.inr (Or.inr ⟨rfl, (RX12, TX12, 85), rfl, by decide, rfl, gm 2199 (by decide +kernel), gm 142 (by decide +kernel)⟩)⟩
set_option maxRecDepth 100000 in
theorem fCF_298 : cfok gP 298 12 3 2 := ⟨mm_298, rfl, gm 2196 (by decide +kernel), gm 167 (by decide +kernel), ⟨by decide, by decide⟩, by decide +kernel, Or.inr (Or.inr ⟨rfl, (RX12, TX12, 85), rfl, by decide, rfl, gm 2194 (by decide +kernel), gm 2195 (by decide +kernel)⟩)⟩
set_option maxRecDepth 100000 in
theorem fCF_299 : cfok gP 299 12 2 2 := ⟨mm_299, rfl, gm 2204 (by decide +kernel), gm 167 (by decide +kernel), ⟨by decide, by decide⟩, by decide +kernel, Or.inr (Or.inr ⟨rfl, (RX12, TX12, 85), rfl, by decide, rfl, gm 2202 (by decide +kernel), gm 2203 (by decide +kernel)⟩)⟩
set_option maxRecDepth 100000 in
theorem fCF_300 : cfok gP 300 12 2 2 := ⟨mm_300, rfl, gm 2208 (by decide +kernel), gm 167 (by decide +kernel), ⟨by decide, by decide⟩, by decide +kernel, Or.inr (Or.inr ⟨rfl, (RX12, TX12, 85), rfl, by decide, rfl, gm 2206 (by decide +kernel), gm 2207 (by decide +kernel)⟩)⟩
set_option maxRecDepth 100000 in
theorem fCF_301 : cfok gP 301 12 1 2 := ⟨mm_301, rfl, gm 2216 (by decide +kernel), gm 167 (by decide +kernel), ⟨by decide, by decide⟩, by decide +kernel, Or.inr (Or.inr ⟨rfl, (RX12, TX12, 85), rfl, by decide, rfl, gm 2215 (by decide +kernel), gm 143 (by decide +kernel)⟩)⟩
set_option maxRecDepth 100000 in
theorem fCF_302 : cfok gP 302 12 1 2 := ⟨mm_302, rfl, gm 2212 (by decide +kernel), gm 167 (by decide +kernel), ⟨by decide, by decide⟩, by decide +kernel, Or.inr (Or.inr ⟨rfl, (RX12, TX12, 85), rfl, by decide, rfl, gm 2210 (by decide +kernel), gm 2211 (by decide +kernel)⟩)⟩
set_option maxRecDepth 100000 in
theorem fCF_303 : cfok gP 303 12 0 2 := ⟨mm_303, rfl, gm 2224 (by decide +kernel), gm 167 (by decide +kernel), ⟨by decide, by decide⟩, by decide +kernel, Or.inr (Or.inr ⟨rfl, (RX12, TX12, 85), rfl, by decide, rfl, gm 2223 (by decide +kernel), gm 144 (by decide +kernel)⟩)⟩
set_option maxRecDepth 100000 in
theorem fCF_304 : cfok gP 304 12 2 2 := ⟨mm_304, rfl, gm 2220 (by decide +kernel), gm 167 (by decide +kernel), ⟨by decide, by decide⟩, by decide +kernel, Or.inr (Or.inr ⟨rfl, (RX12, TX12, 85), rfl, by decide, rfl, gm 2218 (by decide +kernel), gm 2219 (by decide +kernel)⟩)⟩
set_option maxRecDepth 100000 in
theorem fCF_305 : cfok gP 305 12 0 2 := ⟨mm_305, rfl, gm 2228 (by decide +kernel), gm 167 (by decide +kernel), ⟨by decide, by decide⟩, by decide +kernel, Or.inr (Or.inr ⟨rfl, (RX12, TX12, 85), rfl, by decide, rfl, gm 2226 (by decide +kernel), gm 2227 (by decide +kernel)⟩)⟩
set_option maxRecDepth 100000 in
theorem fCF_306 : cfok gP 306 12 2 2 := ⟨mm_306, rfl, gm 2232 (by decide +kernel), gm 167 (by decide +kernel), ⟨by decide, by decide⟩, by decide +kernel, Or.inr (Or.inr ⟨rfl, (RX12, TX12, 85), rfl, by decide, rfl, gm 2230 (by decide +kernel), gm 2231 (by decide +kernel)⟩)⟩
set_option maxRecDepth 100000 in
theorem fCF_307 : cfok gP 307 12 1 2 := ⟨mm_307, rfl, gm 2244 (by decide +kernel), gm 167 (by decide +kernel), ⟨by decide, by decide⟩, by decide +kernel, Or.inr (Or.inr ⟨rfl, (RX12, TX12, 85), rfl, by decide, rfl, gm 2243 (by decide +kernel), gm 146 (by decide +kernel)⟩)⟩
set_option maxRecDepth 100000 in
theorem fCF_308 : cfok gP 308 12 1 2 := ⟨mm_308, rfl, gm 2240 (by decide +kernel), gm 167 (by decide +kernel), ⟨by decide, by decide⟩, by decide +kernel, Or.inr (Or.inr ⟨rfl, (RX12, TX12, 85), rfl, by decide, rfl, gm 2238 (by decide +kernel), gm 2239 (by decide +kernel)⟩)⟩
set_option maxRecDepth 100000 in
theorem fCF_309 : cfok gP 309 12 1 2 := ⟨mm_309, rfl, gm 2252 (by decide +kernel), gm 167 (by decide +kernel), ⟨by decide, by decide⟩, by decide +kernel, Or.inr (Or.inr ⟨rfl, (RX12, TX12, 85), rfl, by decide, rfl, gm 2251 (by decide +kernel), gm 147 (by decide +kernel)⟩)⟩
set_option maxRecDepth 100000 in
theorem fCF_310 : cfok gP 310 12 3 2 := ⟨mm_310, rfl, gm 2248 (by decide +kernel), gm 167 (by decide +kernel), ⟨by decide, by decide⟩, by decide +kernel, Or.inr (Or.inr ⟨rfl, (RX12, TX12, 85), rfl, by decide, rfl, gm 2246 (by decide +kernel), gm 2247 (by decide +kernel)⟩)⟩
set_option maxRecDepth 100000 in
theorem fCF_311 : cfok gP 311 12 1 2 := ⟨mm_311, rfl, gm 2256 (by decide +kernel), gm 167 (by decide +kernel), ⟨by decide, by decide⟩, by decide +kernel, Or.inr (Or.inr ⟨rfl, (RX12, TX12, 85), rfl, by decide, rfl, gm 2254 (by decide +kernel), gm 2255 (by decide +kernel)⟩)⟩
set_option maxRecDepth 100000 in
theorem fCF_312 : cfok gP 312 12 1 2 := ⟨mm_312, rfl, gm 2260 (by decide +kernel), gm 167 (by decide +kernel), ⟨by decide, by decide⟩, by decide +kernel, Or.inr (Or.inr ⟨rfl, (RX12, TX12, 85), rfl, by decide, rfl, gm 2258 (by decide +kernel), gm 2259 (by decide +kernel)⟩)⟩
set_option maxRecDepth 100000 in
theorem fCF_313 : cfok gP 313 12 1 2 := ⟨mm_313, rfl, gm 2264 (by decide +kernel), gm 167 (by decide +kernel), ⟨by decide, by decide⟩, by decide +kernel, Or.inr (Or.inr ⟨rfl, (RX12, TX12, 85), rfl, by decide, rfl, gm 2262 (by decide +kernel), gm 2263 (by decide +kernel)⟩)⟩
set_option maxRecDepth 100000 in
theorem fCF_314 : cfok gP 314 12 1 2 := ⟨mm_314, rfl, gm 2268 (by decide +kernel), gm 167 (by decide +kernel), ⟨by decide, by decide⟩, by decide +kernel, Or.inr (Or.inr ⟨rfl, (RX12, TX12, 85), rfl, by decide, rfl, gm 2266 (by decide +kernel), gm 2267 (by decide +kernel)⟩)⟩
set_option maxRecDepth 100000 in
theorem fCF_315 : cfok gP 315 12 1 2 := ⟨mm_315, rfl, gm 2272 (by decide +kernel), gm 167 (by decide +kernel), ⟨by decide, by decide⟩, by decide +kernel, Or.inr (Or.inr ⟨rfl, (RX12, TX12, 85), rfl, by decide, rfl, gm 2270 (by decide +kernel), gm 2271 (by decide +kernel)⟩)⟩
set_option maxRecDepth 100000 in
theorem fCF_316 : cfok gP 316 0 1 0 := ⟨mm_316, rfl, gm 1067 (by decide +kernel), gm 170 (by decide +kernel), ⟨by decide, by decide⟩, by decide +kernel, Or.inl ⟨rfl, gm 1066 (by decide +kernel)⟩⟩
set_option maxRecDepth 100000 in
theorem fCF_317 : cfok gP 317 0 2 0 := ⟨mm_317, rfl, gm 770 (by decide +kernel), gm 168 (by decide +kernel), ⟨by decide, by decide⟩, by decide +kernel, Or.inl ⟨rfl, gm 769 (by decide +kernel)⟩⟩
set_option maxRecDepth 100000 in
theorem fCF_318 : cfok gP 318 0 2 0 := ⟨mm_318, rfl, gm 773 (by decide +kernel), gm 168 (by decide +kernel), ⟨by decide, by decide⟩, by decide +kernel, Or.inl ⟨rfl, gm 772 (by decide +kernel)⟩⟩
set_option maxRecDepth 100000 in
theorem fCF_319 : cfok gP 319 0 2 0 := ⟨mm_319, rfl, gm 1243 (by decide +kernel), gm 166 (by decide +kernel), ⟨by decide, by decide⟩, by decide +kernel, Or.inl ⟨rfl, gm 1242 (by decide +kernel)⟩⟩
set_option maxRecDepth 100000 in
theorem fCF_320 : cfok gP 320 0 2 0 := ⟨mm_320, rfl, gm 641 (by decide +kernel), gm 166 (by decide +kernel), ⟨by decide, by decide⟩, by decide +kernel, Or.inl ⟨rfl, gm 640 (by decide +kernel)⟩⟩
set_option maxRecDepth 100000 in
theorem fCF_321 : cfok gP 321 0 2 0 := ⟨mm_321, rfl, gm 1336 (by decide +kernel), gm 166 (by decide +kernel), ⟨by decide, by decide⟩, by decide +kernel, Or.inl ⟨rfl, gm 1335 (by decide +kernel)⟩⟩
set_option maxRecDepth 100000 in
theorem fCF_322 : cfok gP 322 0 2 0 := ⟨mm_322, rfl, gm 1348 (by decide +kernel), gm 166 (by decide +kernel), ⟨by decide, by decide⟩, by decide +kernel, Or.inl ⟨rfl, gm 1347 (by decide +kernel)⟩⟩
