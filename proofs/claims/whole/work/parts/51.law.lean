theorem wd1402 : Cond.code yX11_feed prog_1_method_2_code 4 (some .int) ∈ Gw := gT2 (List.mem_of_getElem? (i := 170) rfl) rfl
theorem wd1403 : Cond.methodLink RL 15 yX11_feed ∈ Gw := gT2 (List.mem_of_getElem? (i := 167) rfl) rfl
theorem wd1404 : Cond.instanceMethod yX11_feed ∈ Gw := gT2 (List.mem_of_getElem? (i := 168) rfl) rfl
theorem wd1405 : Cond.selects RX11 yX11_feed yX11_feed ∈ Gw := gT2 (List.mem_of_getElem? (i := 169) rfl) rfl
theorem wd1406 : Cond.initialized RX11 ∈ Gw := gT1 (List.mem_of_getElem? (i := 1) rfl) rfl
theorem wd1407 : Cond.code yX12_feed prog_14_method_77_code 5 (some .int) ∈ Gw := gT7 (List.mem_of_getElem? (i := 210) rfl) rfl
theorem wd1408 : Cond.methodLink RL 19 yX12_feed ∈ Gw := gT7 (List.mem_of_getElem? (i := 207) rfl) rfl
theorem wd1409 : Cond.instanceMethod yX12_feed ∈ Gw := gT7 (List.mem_of_getElem? (i := 208) rfl) rfl
theorem wd1410 : Cond.selects RX12 yX12_feed yX12_feed ∈ Gw := gT7 (List.mem_of_getElem? (i := 209) rfl) rfl
theorem wd1411 : Cond.code yX11_read prog_1_method_3_code 2 (some .int) ∈ Gw := gT2 (List.mem_of_getElem? (i := 182) rfl) rfl
theorem wd1412 : Cond.methodLink RL 20 yX11_read ∈ Gw := gT2 (List.mem_of_getElem? (i := 179) rfl) rfl
theorem wd1413 : Cond.instanceMethod yX11_read ∈ Gw := gT2 (List.mem_of_getElem? (i := 180) rfl) rfl
theorem wd1414 : Cond.selects RX11 yX11_read yX11_read ∈ Gw := gT2 (List.mem_of_getElem? (i := 181) rfl) rfl
theorem wd1415 : Cond.code yX12_read prog_14_method_79_code 3 (some .int) ∈ Gw := gT7 (List.mem_of_getElem? (i := 214) rfl) rfl
theorem wd1416 : Cond.methodLink RL 24 yX12_read ∈ Gw := gT7 (List.mem_of_getElem? (i := 211) rfl) rfl
theorem wd1417 : Cond.instanceMethod yX12_read ∈ Gw := gT7 (List.mem_of_getElem? (i := 212) rfl) rfl
theorem wd1418 : Cond.selects RX12 yX12_read yX12_read ∈ Gw := gT7 (List.mem_of_getElem? (i := 213) rfl) rfl
theorem wd1419 : Cond.code yX11_place prog_1_method_4_code 1 (some .int) ∈ Gw := gT3 (List.mem_of_getElem? (i := 152) rfl) rfl
theorem wd1420 : Cond.methodLink RL 25 yX11_place ∈ Gw := gT3 (List.mem_of_getElem? (i := 149) rfl) rfl
theorem wd1421 : Cond.instanceMethod yX11_place ∈ Gw := gT3 (List.mem_of_getElem? (i := 150) rfl) rfl
theorem wd1422 : Cond.selects RX11 yX11_place yX11_place ∈ Gw := gT3 (List.mem_of_getElem? (i := 151) rfl) rfl
theorem wd1423 : Cond.code yX12_place prog_14_method_80_code 1 (some .int) ∈ Gw := gT8 (List.mem_of_getElem? (i := 64) rfl) rfl
theorem wd1424 : Cond.methodLink RL 28 yX12_place ∈ Gw := gT8 (List.mem_of_getElem? (i := 61) rfl) rfl
theorem wd1425 : Cond.instanceMethod yX12_place ∈ Gw := gT8 (List.mem_of_getElem? (i := 62) rfl) rfl
theorem wd1426 : Cond.selects RX12 yX12_place yX12_place ∈ Gw := gT8 (List.mem_of_getElem? (i := 63) rfl) rfl
theorem wd1427 : Cond.code yX11_count prog_1_method_5_code 2 (some .int) ∈ Gw := gT3 (List.mem_of_getElem? (i := 156) rfl) rfl
theorem wd1428 : Cond.methodLink RL 29 yX11_count ∈ Gw := gT3 (List.mem_of_getElem? (i := 153) rfl) rfl
theorem wd1429 : Cond.instanceMethod yX11_count ∈ Gw := gT3 (List.mem_of_getElem? (i := 154) rfl) rfl
theorem wd1430 : Cond.selects RX11 yX11_count yX11_count ∈ Gw := gT3 (List.mem_of_getElem? (i := 155) rfl) rfl
theorem wd1431 : Cond.code yX12_count prog_14_method_81_code 2 (some .int) ∈ Gw := gT8 (List.mem_of_getElem? (i := 68) rfl) rfl
theorem wd1432 : Cond.methodLink RL 33 yX12_count ∈ Gw := gT8 (List.mem_of_getElem? (i := 65) rfl) rfl
theorem wd1433 : Cond.instanceMethod yX12_count ∈ Gw := gT8 (List.mem_of_getElem? (i := 66) rfl) rfl
theorem wd1434 : Cond.selects RX12 yX12_count yX12_count ∈ Gw := gT8 (List.mem_of_getElem? (i := 67) rfl) rfl
theorem wd1435 : Cond.code yX11_formula prog_1_method_6_code 3 (some .int) ∈ Gw := gT3 (List.mem_of_getElem? (i := 172) rfl) rfl
theorem wd1436 : Cond.methodLink RL 34 yX11_formula ∈ Gw := gT3 (List.mem_of_getElem? (i := 169) rfl) rfl
theorem wd1437 : Cond.instanceMethod yX11_formula ∈ Gw := gT3 (List.mem_of_getElem? (i := 170) rfl) rfl
theorem wd1438 : Cond.selects RX11 yX11_formula yX11_formula ∈ Gw := gT3 (List.mem_of_getElem? (i := 171) rfl) rfl
theorem wd1439 : Cond.code yX12_formula prog_14_method_82_code 3 (some .int) ∈ Gw := gT8 (List.mem_of_getElem? (i := 72) rfl) rfl
theorem wd1440 : Cond.methodLink RL 38 yX12_formula ∈ Gw := gT8 (List.mem_of_getElem? (i := 69) rfl) rfl
theorem wd1441 : Cond.instanceMethod yX12_formula ∈ Gw := gT8 (List.mem_of_getElem? (i := 70) rfl) rfl
theorem wd1442 : Cond.selects RX12 yX12_formula yX12_formula ∈ Gw := gT8 (List.mem_of_getElem? (i := 71) rfl) rfl
theorem wd1443 : Cond.code yX11_make prog_1_method_7_code 5 (some .int) ∈ Gw := gT3 (List.mem_of_getElem? (i := 193) rfl) rfl
theorem wd1444 : Cond.methodLink RL 39 yX11_make ∈ Gw := gT3 (List.mem_of_getElem? (i := 190) rfl) rfl
theorem wd1445 : Cond.instanceMethod yX11_make ∈ Gw := gT3 (List.mem_of_getElem? (i := 191) rfl) rfl
theorem wd1446 : Cond.selects RX11 yX11_make yX11_make ∈ Gw := gT3 (List.mem_of_getElem? (i := 192) rfl) rfl
theorem wd1447 : Cond.code yX12_make prog_14_method_83_code 5 (some .int) ∈ Gw := gT8 (List.mem_of_getElem? (i := 76) rfl) rfl
theorem wd1448 : Cond.methodLink RL 43 yX12_make ∈ Gw := gT8 (List.mem_of_getElem? (i := 73) rfl) rfl
theorem wd1449 : Cond.instanceMethod yX12_make ∈ Gw := gT8 (List.mem_of_getElem? (i := 74) rfl) rfl
theorem wd1450 : Cond.selects RX12 yX12_make yX12_make ∈ Gw := gT8 (List.mem_of_getElem? (i := 75) rfl) rfl
theorem wd1451 : Cond.code yX11_write prog_1_method_8_code 2 (some .int) ∈ Gw := gT3 (List.mem_of_getElem? (i := 198) rfl) rfl
theorem wd1452 : Cond.methodLink RL 44 yX11_write ∈ Gw := gT3 (List.mem_of_getElem? (i := 195) rfl) rfl
theorem wd1453 : Cond.instanceMethod yX11_write ∈ Gw := gT3 (List.mem_of_getElem? (i := 196) rfl) rfl
theorem wd1454 : Cond.selects RX11 yX11_write yX11_write ∈ Gw := gT3 (List.mem_of_getElem? (i := 197) rfl) rfl
theorem wd1455 : Cond.code yX12_write prog_14_method_52_code 2 (some .int) ∈ Gw := gT7 (List.mem_of_getElem? (i := 117) rfl) rfl
theorem wd1456 : Cond.methodLink RL 47 yX12_write ∈ Gw := gT7 (List.mem_of_getElem? (i := 114) rfl) rfl
theorem wd1457 : Cond.instanceMethod yX12_write ∈ Gw := gT7 (List.mem_of_getElem? (i := 115) rfl) rfl
theorem wd1458 : Cond.selects RX12 yX12_write yX12_write ∈ Gw := gT7 (List.mem_of_getElem? (i := 116) rfl) rfl
theorem wd1459 : Cond.code yX11_octet prog_1_method_9_code 2 (some .int) ∈ Gw := gT4 (List.mem_of_getElem? (i := 37) rfl) rfl
theorem wd1460 : Cond.methodLink RL 48 yX11_octet ∈ Gw := gT4 (List.mem_of_getElem? (i := 34) rfl) rfl
theorem wd1461 : Cond.instanceMethod yX11_octet ∈ Gw := gT4 (List.mem_of_getElem? (i := 35) rfl) rfl
theorem wd1462 : Cond.selects RX11 yX11_octet yX11_octet ∈ Gw := gT4 (List.mem_of_getElem? (i := 36) rfl) rfl
theorem wd1463 : Cond.code yX12_octet prog_14_method_53_code 2 (some .int) ∈ Gw := gT7 (List.mem_of_getElem? (i := 157) rfl) rfl
theorem wd1464 : Cond.methodLink RL 51 yX12_octet ∈ Gw := gT7 (List.mem_of_getElem? (i := 154) rfl) rfl
theorem wd1465 : Cond.instanceMethod yX12_octet ∈ Gw := gT7 (List.mem_of_getElem? (i := 155) rfl) rfl
theorem wd1466 : Cond.selects RX12 yX12_octet yX12_octet ∈ Gw := gT7 (List.mem_of_getElem? (i := 156) rfl) rfl
theorem wd1467 : Cond.code yX11_given prog_1_method_10_code 2 (some .int) ∈ Gw := gT4 (List.mem_of_getElem? (i := 45) rfl) rfl
theorem wd1468 : Cond.methodLink RL 52 yX11_given ∈ Gw := gT4 (List.mem_of_getElem? (i := 42) rfl) rfl
theorem wd1469 : Cond.instanceMethod yX11_given ∈ Gw := gT4 (List.mem_of_getElem? (i := 43) rfl) rfl
theorem wd1470 : Cond.selects RX11 yX11_given yX11_given ∈ Gw := gT4 (List.mem_of_getElem? (i := 44) rfl) rfl
theorem wd1471 : Cond.code yX12_given prog_14_method_84_code 2 (some .int) ∈ Gw := gT8 (List.mem_of_getElem? (i := 80) rfl) rfl
theorem wd1472 : Cond.methodLink RL 55 yX12_given ∈ Gw := gT8 (List.mem_of_getElem? (i := 77) rfl) rfl
theorem wd1473 : Cond.instanceMethod yX12_given ∈ Gw := gT8 (List.mem_of_getElem? (i := 78) rfl) rfl
theorem wd1474 : Cond.selects RX12 yX12_given yX12_given ∈ Gw := gT8 (List.mem_of_getElem? (i := 79) rfl) rfl
theorem wd1475 : Cond.code yX11_forget prog_1_method_11_code 2 (some .int) ∈ Gw := gT4 (List.mem_of_getElem? (i := 49) rfl) rfl
theorem wd1476 : Cond.methodLink RL 56 yX11_forget ∈ Gw := gT4 (List.mem_of_getElem? (i := 46) rfl) rfl
theorem wd1477 : Cond.instanceMethod yX11_forget ∈ Gw := gT4 (List.mem_of_getElem? (i := 47) rfl) rfl
theorem wd1478 : Cond.selects RX11 yX11_forget yX11_forget ∈ Gw := gT4 (List.mem_of_getElem? (i := 48) rfl) rfl
theorem wd1479 : Cond.code yX12_forget prog_14_method_85_code 2 (some .int) ∈ Gw := gT8 (List.mem_of_getElem? (i := 84) rfl) rfl
theorem wd1480 : Cond.methodLink RL 59 yX12_forget ∈ Gw := gT8 (List.mem_of_getElem? (i := 81) rfl) rfl
theorem wd1481 : Cond.instanceMethod yX12_forget ∈ Gw := gT8 (List.mem_of_getElem? (i := 82) rfl) rfl
theorem wd1482 : Cond.selects RX12 yX12_forget yX12_forget ∈ Gw := gT8 (List.mem_of_getElem? (i := 83) rfl) rfl
theorem wd1483 : Cond.code yX11_prove prog_1_method_12_code 3 (some .int) ∈ Gw := gT4 (List.mem_of_getElem? (i := 53) rfl) rfl
theorem wd1484 : Cond.methodLink RL 60 yX11_prove ∈ Gw := gT4 (List.mem_of_getElem? (i := 50) rfl) rfl
theorem wd1485 : Cond.instanceMethod yX11_prove ∈ Gw := gT4 (List.mem_of_getElem? (i := 51) rfl) rfl
theorem wd1486 : Cond.selects RX11 yX11_prove yX11_prove ∈ Gw := gT4 (List.mem_of_getElem? (i := 52) rfl) rfl
theorem wd1487 : Cond.code yX12_prove prog_14_method_86_code 5 (some .int) ∈ Gw := gT8 (List.mem_of_getElem? (i := 88) rfl) rfl
theorem wd1488 : Cond.methodLink RL 63 yX12_prove ∈ Gw := gT8 (List.mem_of_getElem? (i := 85) rfl) rfl
theorem wd1489 : Cond.instanceMethod yX12_prove ∈ Gw := gT8 (List.mem_of_getElem? (i := 86) rfl) rfl
theorem wd1490 : Cond.selects RX12 yX12_prove yX12_prove ∈ Gw := gT8 (List.mem_of_getElem? (i := 87) rfl) rfl
theorem wd1491 : Cond.code yX11_told prog_1_method_13_code 2 (some .int) ∈ Gw := gT4 (List.mem_of_getElem? (i := 235) rfl) rfl
theorem wd1492 : Cond.methodLink RL 64 yX11_told ∈ Gw := gT4 (List.mem_of_getElem? (i := 232) rfl) rfl
theorem wd1493 : Cond.instanceMethod yX11_told ∈ Gw := gT4 (List.mem_of_getElem? (i := 233) rfl) rfl
theorem wd1494 : Cond.selects RX11 yX11_told yX11_told ∈ Gw := gT4 (List.mem_of_getElem? (i := 234) rfl) rfl
theorem wd1495 : Cond.code yX12_told prog_14_method_87_code 2 (some .int) ∈ Gw := gT8 (List.mem_of_getElem? (i := 168) rfl) rfl
theorem wd1496 : Cond.methodLink RL 67 yX12_told ∈ Gw := gT8 (List.mem_of_getElem? (i := 165) rfl) rfl
theorem wd1497 : Cond.instanceMethod yX12_told ∈ Gw := gT8 (List.mem_of_getElem? (i := 166) rfl) rfl
theorem wd1498 : Cond.selects RX12 yX12_told yX12_told ∈ Gw := gT8 (List.mem_of_getElem? (i := 167) rfl) rfl
theorem wd1499 : Cond.code yX11_proof prog_1_method_14_code 1 (some .int) ∈ Gw := gT4 (List.mem_of_getElem? (i := 239) rfl) rfl
theorem wd1500 : Cond.methodLink RL 68 yX11_proof ∈ Gw := gT4 (List.mem_of_getElem? (i := 236) rfl) rfl
theorem wd1501 : Cond.instanceMethod yX11_proof ∈ Gw := gT4 (List.mem_of_getElem? (i := 237) rfl) rfl
theorem wd1502 : Cond.selects RX11 yX11_proof yX11_proof ∈ Gw := gT4 (List.mem_of_getElem? (i := 238) rfl) rfl
theorem wd1503 : Cond.code yX12_proof prog_14_method_54_code 3 (some .int) ∈ Gw := gT7 (List.mem_of_getElem? (i := 161) rfl) rfl
theorem wd1504 : Cond.methodLink RL 71 yX12_proof ∈ Gw := gT7 (List.mem_of_getElem? (i := 158) rfl) rfl
theorem wd1505 : Cond.instanceMethod yX12_proof ∈ Gw := gT7 (List.mem_of_getElem? (i := 159) rfl) rfl
theorem wd1506 : Cond.selects RX12 yX12_proof yX12_proof ∈ Gw := gT7 (List.mem_of_getElem? (i := 160) rfl) rfl
theorem wd1507 : Cond.code yX11_check prog_1_method_15_code 3 (some .int) ∈ Gw := gT5 (List.mem_of_getElem? (i := 55) rfl) rfl
theorem wd1508 : Cond.methodLink RL 72 yX11_check ∈ Gw := gT5 (List.mem_of_getElem? (i := 52) rfl) rfl
theorem wd1509 : Cond.instanceMethod yX11_check ∈ Gw := gT5 (List.mem_of_getElem? (i := 53) rfl) rfl
theorem wd1510 : Cond.selects RX11 yX11_check yX11_check ∈ Gw := gT5 (List.mem_of_getElem? (i := 54) rfl) rfl
theorem wd1511 : Cond.code yX12_check prog_14_method_88_code 4 (some .int) ∈ Gw := gT8 (List.mem_of_getElem? (i := 172) rfl) rfl
theorem wd1512 : Cond.methodLink RL 75 yX12_check ∈ Gw := gT8 (List.mem_of_getElem? (i := 169) rfl) rfl
theorem wd1513 : Cond.instanceMethod yX12_check ∈ Gw := gT8 (List.mem_of_getElem? (i := 170) rfl) rfl
theorem wd1514 : Cond.selects RX12 yX12_check yX12_check ∈ Gw := gT8 (List.mem_of_getElem? (i := 171) rfl) rfl
theorem wd1515 : Cond.code yX11_classical prog_1_method_16_code 2 (some .int) ∈ Gw := gT5 (List.mem_of_getElem? (i := 133) rfl) rfl
theorem wd1516 : Cond.methodLink RL 76 yX11_classical ∈ Gw := gT5 (List.mem_of_getElem? (i := 130) rfl) rfl
theorem wd1517 : Cond.instanceMethod yX11_classical ∈ Gw := gT5 (List.mem_of_getElem? (i := 131) rfl) rfl
theorem wd1518 : Cond.selects RX11 yX11_classical yX11_classical ∈ Gw := gT5 (List.mem_of_getElem? (i := 132) rfl) rfl
theorem wd1519 : Cond.code yX12_classical prog_14_method_90_code 5 (some .int) ∈ Gw := gT8 (List.mem_of_getElem? (i := 220) rfl) rfl
theorem wd1520 : Cond.methodLink RL 79 yX12_classical ∈ Gw := gT8 (List.mem_of_getElem? (i := 217) rfl) rfl
theorem wd1521 : Cond.instanceMethod yX12_classical ∈ Gw := gT8 (List.mem_of_getElem? (i := 218) rfl) rfl
theorem wd1522 : Cond.selects RX12 yX12_classical yX12_classical ∈ Gw := gT8 (List.mem_of_getElem? (i := 219) rfl) rfl
theorem wd1523 : Cond.code yX11_refute prog_1_method_17_code 1 (some .int) ∈ Gw := gT5 (List.mem_of_getElem? (i := 184) rfl) rfl
theorem wd1524 : Cond.methodLink RL 80 yX11_refute ∈ Gw := gT5 (List.mem_of_getElem? (i := 181) rfl) rfl
theorem wd1525 : Cond.instanceMethod yX11_refute ∈ Gw := gT5 (List.mem_of_getElem? (i := 182) rfl) rfl
theorem wd1526 : Cond.selects RX11 yX11_refute yX11_refute ∈ Gw := gT5 (List.mem_of_getElem? (i := 183) rfl) rfl
theorem wd1527 : Cond.code yX12_refute prog_14_method_75_code 4 (some .int) ∈ Gw := gT7 (List.mem_of_getElem? (i := 202) rfl) rfl
theorem wd1528 : Cond.methodLink RL 83 yX12_refute ∈ Gw := gT7 (List.mem_of_getElem? (i := 199) rfl) rfl
theorem wd1529 : Cond.instanceMethod yX12_refute ∈ Gw := gT7 (List.mem_of_getElem? (i := 200) rfl) rfl
theorem wd1530 : Cond.selects RX12 yX12_refute yX12_refute ∈ Gw := gT7 (List.mem_of_getElem? (i := 201) rfl) rfl
theorem wd1531 : Cond.code yX11_clear prog_1_method_18_code 2 (some .int) ∈ Gw := gT5 (List.mem_of_getElem? (i := 217) rfl) rfl
theorem wd1532 : Cond.methodLink RL 84 yX11_clear ∈ Gw := gT5 (List.mem_of_getElem? (i := 214) rfl) rfl
theorem wd1533 : Cond.instanceMethod yX11_clear ∈ Gw := gT5 (List.mem_of_getElem? (i := 215) rfl) rfl
theorem wd1534 : Cond.selects RX11 yX11_clear yX11_clear ∈ Gw := gT5 (List.mem_of_getElem? (i := 216) rfl) rfl
theorem wd1535 : Cond.code yX12_clear prog_14_method_71_code 2 (some .int) ∈ Gw := gT7 (List.mem_of_getElem? (i := 182) rfl) rfl
theorem wd1536 : Cond.methodLink RL 87 yX12_clear ∈ Gw := gT7 (List.mem_of_getElem? (i := 179) rfl) rfl
theorem wd1537 : Cond.instanceMethod yX12_clear ∈ Gw := gT7 (List.mem_of_getElem? (i := 180) rfl) rfl
theorem wd1538 : Cond.selects RX12 yX12_clear yX12_clear ∈ Gw := gT7 (List.mem_of_getElem? (i := 181) rfl) rfl
theorem wd1539 : Cond.code yX11_world prog_1_method_19_code 2 (some .int) ∈ Gw := gT5 (List.mem_of_getElem? (i := 225) rfl) rfl
theorem wd1540 : Cond.methodLink RL 88 yX11_world ∈ Gw := gT5 (List.mem_of_getElem? (i := 222) rfl) rfl
theorem wd1541 : Cond.instanceMethod yX11_world ∈ Gw := gT5 (List.mem_of_getElem? (i := 223) rfl) rfl
theorem wd1542 : Cond.selects RX11 yX11_world yX11_world ∈ Gw := gT5 (List.mem_of_getElem? (i := 224) rfl) rfl
theorem wd1543 : Cond.code yX12_world prog_14_method_72_code 2 (some .int) ∈ Gw := gT7 (List.mem_of_getElem? (i := 186) rfl) rfl
theorem wd1544 : Cond.methodLink RL 91 yX12_world ∈ Gw := gT7 (List.mem_of_getElem? (i := 183) rfl) rfl
theorem wd1545 : Cond.instanceMethod yX12_world ∈ Gw := gT7 (List.mem_of_getElem? (i := 184) rfl) rfl
theorem wd1546 : Cond.selects RX12 yX12_world yX12_world ∈ Gw := gT7 (List.mem_of_getElem? (i := 185) rfl) rfl
theorem wd1547 : Cond.code yX11_force prog_1_method_20_code 3 (some .int) ∈ Gw := gT5 (List.mem_of_getElem? (i := 238) rfl) rfl
theorem wd1548 : Cond.methodLink RL 92 yX11_force ∈ Gw := gT5 (List.mem_of_getElem? (i := 235) rfl) rfl
theorem wd1549 : Cond.instanceMethod yX11_force ∈ Gw := gT5 (List.mem_of_getElem? (i := 236) rfl) rfl
theorem wd1550 : Cond.selects RX11 yX11_force yX11_force ∈ Gw := gT5 (List.mem_of_getElem? (i := 237) rfl) rfl
theorem wd1551 : Cond.code yX12_force prog_14_method_73_code 5 (some .int) ∈ Gw := gT7 (List.mem_of_getElem? (i := 190) rfl) rfl
theorem wd1552 : Cond.methodLink RL 95 yX12_force ∈ Gw := gT7 (List.mem_of_getElem? (i := 187) rfl) rfl
theorem wd1553 : Cond.instanceMethod yX12_force ∈ Gw := gT7 (List.mem_of_getElem? (i := 188) rfl) rfl
theorem wd1554 : Cond.selects RX12 yX12_force yX12_force ∈ Gw := gT7 (List.mem_of_getElem? (i := 189) rfl) rfl
theorem wd1555 : Cond.code yX11_about prog_1_method_21_code 4 (some .int) ∈ Gw := gT6 (List.mem_of_getElem? (i := 17) rfl) rfl
theorem wd1556 : Cond.methodLink RL 96 yX11_about ∈ Gw := gT6 (List.mem_of_getElem? (i := 14) rfl) rfl
theorem wd1557 : Cond.instanceMethod yX11_about ∈ Gw := gT6 (List.mem_of_getElem? (i := 15) rfl) rfl
theorem wd1558 : Cond.selects RX11 yX11_about yX11_about ∈ Gw := gT6 (List.mem_of_getElem? (i := 16) rfl) rfl
theorem wd1559 : Cond.code yX12_about prog_14_method_74_code 6 (some .int) ∈ Gw := gT7 (List.mem_of_getElem? (i := 198) rfl) rfl
theorem wd1560 : Cond.methodLink RL 99 yX12_about ∈ Gw := gT7 (List.mem_of_getElem? (i := 195) rfl) rfl
theorem wd1561 : Cond.instanceMethod yX12_about ∈ Gw := gT7 (List.mem_of_getElem? (i := 196) rfl) rfl
theorem wd1562 : Cond.selects RX12 yX12_about yX12_about ∈ Gw := gT7 (List.mem_of_getElem? (i := 197) rfl) rfl
theorem wd1563 : Cond.code yX11_holds prog_1_method_22_code 3 (some .int) ∈ Gw := gT6 (List.mem_of_getElem? (i := 33) rfl) rfl
theorem wd1564 : Cond.methodLink RL 100 yX11_holds ∈ Gw := gT6 (List.mem_of_getElem? (i := 30) rfl) rfl
theorem wd1565 : Cond.instanceMethod yX11_holds ∈ Gw := gT6 (List.mem_of_getElem? (i := 31) rfl) rfl
theorem wd1566 : Cond.selects RX11 yX11_holds yX11_holds ∈ Gw := gT6 (List.mem_of_getElem? (i := 32) rfl) rfl
theorem wd1567 : Cond.code yX12_holds prog_14_method_69_code 7 (some .int) ∈ Gw := gT7 (List.mem_of_getElem? (i := 165) rfl) rfl
theorem wd1568 : Cond.methodLink RL 103 yX12_holds ∈ Gw := gT7 (List.mem_of_getElem? (i := 162) rfl) rfl
theorem wd1569 : Cond.instanceMethod yX12_holds ∈ Gw := gT7 (List.mem_of_getElem? (i := 163) rfl) rfl
theorem wd1570 : Cond.selects RX12 yX12_holds yX12_holds ∈ Gw := gT7 (List.mem_of_getElem? (i := 164) rfl) rfl
theorem wd1571 : Cond.code yX11_init prog_1_method_1_code 1 none ∈ Gw := gT1 (List.mem_of_getElem? (i := 26) rfl) rfl
theorem wd1572 : Cond.methodLink RL 9 yX11_init ∈ Gw := gT1 (List.mem_of_getElem? (i := 24) rfl) rfl
theorem wd1573 : Cond.instanceMethod yX11_init ∈ Gw := gT1 (List.mem_of_getElem? (i := 25) rfl) rfl
theorem wd1574 : Cond.code yX12_init prog_14_method_1_code 1 none ∈ Gw := gT6 (List.mem_of_getElem? (i := 55) rfl) rfl
theorem wd1575 : Cond.methodLink RL 12 yX12_init ∈ Gw := gT6 (List.mem_of_getElem? (i := 53) rfl) rfl
theorem wd1576 : Cond.instanceMethod yX12_init ∈ Gw := gT6 (List.mem_of_getElem? (i := 54) rfl) rfl
theorem ix_in {L i : Nat} {x3 : Int32} (hL : L ≤ 2048) (ex3 : x3 = nI i) (h : i + 4 ≤ L) : vp_in x3 L ∧ vp_in (x3 + 1) L ∧ vp_in (x3 + 2) L ∧ vp_in (x3 + 3) L := by
  subst ex3
  refine ⟨vp_in_nI (by omega) (by omega), ?_, ?_, ?_⟩
  · rw [nI_1]; exact vp_in_nI (by omega) (by omega)
  · rw [show (2 : Int32) = nI 2 from rfl, nI_add]; exact vp_in_nI (by omega) (by omega)
  · rw [show (3 : Int32) = nI 3 from rfl, nI_add]; exact vp_in_nI (by omega) (by omega)
theorem ix_le {L i : Nat} (hL : L ≤ 2048) (hi : i ≤ L) (h : ¬ nI L - 4 < nI i) : i + 4 ≤ L := by
  rw [show (4 : Int32) = nI 4 from rfl] at h
  rw [Int32.lt_iff_toInt_lt, pk_sub_toInt (by omega) (by omega), nI_toInt (by omega)] at h
  omega
set_option maxRecDepth 100000 in
set_option maxHeartbeats 40000000 in
theorem law_loop {p : Program} {l : Launch} {e : Env} {s : State} {m : MethodId} {below : List Frame} {meth : Method} {c : Code} {D : va_G} {cy : Nat → ClassId} {ee : EE} {b L : Nat} {xs : Nat → Int32} (hL : L ≤ 2048) (C0 : lw_At p s m meth c b L xs) (K : va_K D vwCl (tyL cy) s) (E : EV ee (fun q : Nat => s.heap.size ≤ q) s s.heap) {n : Nat} {I : StT → StT → Prop} (hs : Sim n I) : ∀ (t i : Nat) (x3 : Int32), i ≤ L → L + 1 ≤ i + t → x3 = nI i → ∀ (ad ad2 : Nat → Nat) (sC sM : StT), I sC sM → ∀ (H : Heap) (locs : List Loc), Z2 D (wC ad cy sC) (wM ad2 cy sM) (fun q : Nat => s.heap.size ≤ q) s H locs → ∀ ls : Array Slot, lv_has ls 4 [(0, .ref b), (1, .ref (ad 0)), (2, .ref (ad2 0)), (3, .int x3)] → W p l e room_1 s m #[Value.ref b] below meth c H locs 125 961885 (lw_Z below #[Value.ref b] s) (F0 m 18 ls []) := by
  obtain ⟨hx, hb, hr, hml, hown, hts, hX, hbl, hlocks, hgv⟩ := id C0
  have hA : ∀ q : Nat, s.heap.size ≤ q → (fun q : Nat => s.heap.size ≤ q) q := fun _ h => h
  have hbA : ¬ (fun q : Nat => s.heap.size ≤ q) b := Nat.not_le.mpr hbl
  have F : CallFix p m c code 4 s #[Value.ref b] (Cond.initialized "WorldProver" :: Gw) RL := ⟨hx, hb, hml, hown, fun w h => (List.mem_cons.mp h).elim (fun h => by rw [h]; exact hts _ (List.mem_append_right _ (List.mem_append_left _ (List.mem_of_getElem? (i := 1) rfl)))) (fun h => hts w (gw_in w h))⟩
  intro t
  induction t with
  | zero => intro i x3 h1 h2; exact absurd h2 (by omega)
  | succ t ih =>
    intro i x3 hi hit ex3 ad ad2 sC sM hI H locs Z ls hl
    refine lv_iload_n hx hb dL_law_18 rfl (lv_at hl 3 rfl) ?_
    refine lv_aload_n hx hb dL_law_19 rfl (lv_at hl 0 rfl) ?_
    refine va_slen hx hb hX hbl hbA Z.2.2.2.2.2 dL_law_20 ?_
    refine lv_iconst (v := 4) hx hb dL_law_21 (by decide) ?_
    refine lv_isub hx hb dL_law_22 ?_
    refine lv_icmp_gt (tgt := 681) hx hb dL_law_23 (by decide) (fun c23 => ?_) (fun c23 => ?_)
    · refine lv_iconst (v := 1) hx hb dL_law_681 (by decide) ?_
      refine va_forget (fun q hq => Z.2.2.2.2.2.2.2 q hq) ?_
      refine W.widen (k := 600000) (n := 7302250) (Nat.le_of_ble_eq_true rfl) (Nat.le_of_ble_eq_true rfl) ?_
      exact lw_ret hx hb hr hlocks dL_law_682
    have h4 : i + 4 ≤ L := ix_le hL hi (by rw [← ex3]; exact c23)
    obtain ⟨hv0, hv1, hv2, hv3⟩ := ix_in hL ex3 h4
    have tail : ∀ (sC sM : StT), I sC sM → ∀ (H : Heap) (locs : List Loc), Z2 D (wC ad cy sC) (wM ad2 cy sM) (fun q : Nat => s.heap.size ≤ q) s H locs → W p l e room_1 s m #[Value.ref b] below meth c H locs 125 961885 (lw_Z below #[Value.ref b] s) (F0 m 675 ls []) := by
      intro sC sM hI H locs Z
      refine lv_iinc (v := x3 + 4) (lv' := [(3, .int (x3 + 4)), (0, .ref b), (1, .ref (ad 0)), (2, .ref (ad2 0))]) hx hb dL_law_675 hl (k := 3) rfl (congrArg (fun z => x3 + z) (by decide)) (by decide) rfl (fun ls hl => ?_)
      refine lv_goto (tgt := 18) hx hb dL_law_678 (by decide) ?_
      exact ih (i + 4) (x3 + 4) h4 (by omega) (by rw [ex3, show (4 : Int32) = nI 4 from rfl, nI_add]) ad ad2 sC sM hI _ _ Z ls (lv_sub hl [1, 2, 3, 0] rfl)
    refine lv_aload_n hx hb dL_law_26 rfl (lv_at hl 0 rfl) ?_
    refine lv_iload_n hx hb dL_law_27 rfl (lv_at hl 3 rfl) ?_
    refine va_sld hx hb hX hbl hbA Z.2.2.2.2.2 hv0 dL_law_28 ?_
    refine lv_bipush (v := 31) hx hb dL_law_29 (by decide) ?_
    refine lv_iand hx hb dL_law_31 ?_
    generalize (xs x3.toNatClampNeg &&& 31) = sel
    by_cases s0 : sel = 0
    · refine lv_tableIn (tgt := 132) hx hb dL_law_32 (by rw [s0] <;> decide) (by rw [s0] <;> decide) (by rw [s0] <;> rfl) (by decide) ?_
      obtain ⟨r, sC1, sM1, e1, e2, hI1⟩ := hs 0 (((xs (x3 + 1).toNatClampNeg).toInt64 <<< ((32 : Int32).toInt64 &&& 63)) ||| ((xs (x3 + 2).toNatClampNeg).toInt64 &&& 4294967295)) (xs (x3 + 1).toNatClampNeg) (xs (x3 + 2).toNatClampNeg) (xs (x3 + 3).toNatClampNeg) sC sM (by decide) hI
      refine lv_aload_n hx hb dL_law_132 rfl (lv_at hl 1 rfl) ?_
      refine lv_aload_n hx hb dL_law_133 rfl (lv_at hl 0 rfl) ?_
      refine lv_iload_n hx hb dL_law_134 rfl (lv_at hl 3 rfl) ?_
      refine lv_iconst (v := 1) hx hb dL_law_135 (by decide) ?_
      refine lv_iadd hx hb dL_law_136 ?_
      refine va_sld hx hb hX hbl hbA Z.2.2.2.2.2 hv1 dL_law_137 ?_
      refine lv_i2l hx hb dL_law_138 rfl ?_
      refine lv_bipush (v := 32) hx hb dL_law_139 (by decide) ?_
      refine lv_lshl hx hb dL_law_141 rfl ?_
      refine lv_aload_n hx hb dL_law_142 rfl (lv_at hl 0 rfl) ?_
      refine lv_iload_n hx hb dL_law_143 rfl (lv_at hl 3 rfl) ?_
      refine lv_iconst (v := 2) hx hb dL_law_144 (by decide) ?_
      refine lv_iadd hx hb dL_law_145 ?_
      refine va_sld hx hb hX hbl hbA Z.2.2.2.2.2 hv2 dL_law_146 ?_
      refine lv_i2l hx hb dL_law_147 rfl ?_
      refine lv_ldc2 (v := 4294967295) hx hb hown (hts _ (List.mem_append_right _ (List.mem_append_right _ (List.mem_append_right _ (List.mem_append_right _ (List.mem_append_right _ (List.mem_append_right _ (List.mem_append_right _ (List.mem_append_right _ (List.mem_of_getElem? (i := 225) rfl)))))))))) dL_law_148 ?_
      refine lv_land hx hb dL_law_151 ?_
      refine lv_lor hx hb dL_law_152 ?_
      refine lv_aload_n hx hb dL_law_153 rfl (lv_at hl 0 rfl) ?_
      refine lv_iload_n hx hb dL_law_154 rfl (lv_at hl 3 rfl) ?_
      refine lv_iconst (v := 3) hx hb dL_law_155 (by decide) ?_
      refine lv_iadd hx hb dL_law_156 ?_
      refine va_sld hx hb hX hbl hbA Z.2.2.2.2.2 hv3 dL_law_157 ?_
      refine call_2 (q := (RX11, TX11, 10)) (n := 2) (As := [.long (((xs (x3 + 1).toNatClampNeg).toInt64 <<< ((32 : Int32).toInt64 &&& 63)) ||| ((xs (x3 + 2).toNatClampNeg).toInt64 &&& 4294967295)), .int (xs (x3 + 3).toNatClampNeg)]) (rv := some (.int r)) 0 11 F K E hA Z (show CT l yX11_feed cX11_feed 4 (some .int) 1 24 D cy ee (wC ad cy sC) (wC ad cy sC1) (.ref (ad 0) :: [.long (((xs (x3 + 1).toNatClampNeg).toInt64 <<< ((32 : Int32).toInt64 &&& 63)) ||| ((xs (x3 + 2).toNatClampNeg).toInt64 &&& 4294967295)), .int (xs (x3 + 3).toNatClampNeg)]) (some (.int r)) from c_X11_feed (n := n) (res := (r, sC1)) e1) ⟨wd1402, wd1403, wd1404, wd1405, wd1406⟩ (by decide +kernel) rfl rfl ⟨Nat.le_of_ble_eq_true rfl, Nat.le_of_ble_eq_true rfl⟩ ⟨Nat.le_of_ble_eq_true rfl, Nat.le_of_ble_eq_true rfl⟩ rfl hl.1 (Nat.le_of_ble_eq_true rfl) dL_law_158 (fun H locs Z => ?_)
      have Z := Z.swap
      refine lv_aload_n hx hb dL_law_161 rfl (lv_at hl 2 rfl) ?_
      refine lv_aload_n hx hb dL_law_162 rfl (lv_at hl 0 rfl) ?_
      refine lv_iload_n hx hb dL_law_163 rfl (lv_at hl 3 rfl) ?_
      refine lv_iconst (v := 1) hx hb dL_law_164 (by decide) ?_
      refine lv_iadd hx hb dL_law_165 ?_
      refine va_sld hx hb hX hbl hbA Z.2.2.2.2.2 hv1 dL_law_166 ?_
      refine lv_i2l hx hb dL_law_167 rfl ?_
      refine lv_bipush (v := 32) hx hb dL_law_168 (by decide) ?_
      refine lv_lshl hx hb dL_law_170 rfl ?_
      refine lv_aload_n hx hb dL_law_171 rfl (lv_at hl 0 rfl) ?_
      refine lv_iload_n hx hb dL_law_172 rfl (lv_at hl 3 rfl) ?_
      refine lv_iconst (v := 2) hx hb dL_law_173 (by decide) ?_
      refine lv_iadd hx hb dL_law_174 ?_
      refine va_sld hx hb hX hbl hbA Z.2.2.2.2.2 hv2 dL_law_175 ?_
      refine lv_i2l hx hb dL_law_176 rfl ?_
      refine lv_ldc2 (v := 4294967295) hx hb hown (hts _ (List.mem_append_right _ (List.mem_append_right _ (List.mem_append_right _ (List.mem_append_right _ (List.mem_append_right _ (List.mem_append_right _ (List.mem_append_right _ (List.mem_append_right _ (List.mem_of_getElem? (i := 225) rfl)))))))))) dL_law_177 ?_
      refine lv_land hx hb dL_law_180 ?_
      refine lv_lor hx hb dL_law_181 ?_
      refine lv_aload_n hx hb dL_law_182 rfl (lv_at hl 0 rfl) ?_
      refine lv_iload_n hx hb dL_law_183 rfl (lv_at hl 3 rfl) ?_
      refine lv_iconst (v := 3) hx hb dL_law_184 (by decide) ?_
      refine lv_iadd hx hb dL_law_185 ?_
      refine va_sld hx hb hX hbl hbA Z.2.2.2.2.2 hv3 dL_law_186 ?_
      refine call_2 (q := (RX12, TX12, 98)) (n := 2) (As := [.long (((xs (x3 + 1).toNatClampNeg).toInt64 <<< ((32 : Int32).toInt64 &&& 63)) ||| ((xs (x3 + 2).toNatClampNeg).toInt64 &&& 4294967295)), .int (xs (x3 + 3).toNatClampNeg)]) (rv := some (.int r)) 0 12 F K E hA Z (show CT l yX12_feed cX12_feed 5 (some .int) 0 0 D cy ee (wM ad2 cy sM) (wM ad2 cy sM1) (.ref (ad2 0) :: [.long (((xs (x3 + 1).toNatClampNeg).toInt64 <<< ((32 : Int32).toInt64 &&& 63)) ||| ((xs (x3 + 2).toNatClampNeg).toInt64 &&& 4294967295)), .int (xs (x3 + 3).toNatClampNeg)]) (some (.int r)) from c_X12_feed (n := n) (res := (r, sM1)) e2) ⟨wd1407, wd1408, wd1409, wd1410, wd1008⟩ (by decide +kernel) rfl rfl ⟨Nat.le_of_ble_eq_true rfl, Nat.le_of_ble_eq_true rfl⟩ ⟨Nat.le_of_ble_eq_true rfl, Nat.le_of_ble_eq_true rfl⟩ rfl hl.1 (Nat.le_of_ble_eq_true rfl) dL_law_187 (fun H locs Z => ?_)
      have Z := Z.swap
      refine lv_icmp_eq (tgt := 675) hx hb dL_law_190 (by decide) (fun _ => ?_) (fun cx => absurd rfl cx)
      exact tail sC1 sM1 hI1 _ _ Z
    by_cases s1 : sel = 1
    · refine lv_tableIn (tgt := 195) hx hb dL_law_32 (by rw [s1] <;> decide) (by rw [s1] <;> decide) (by rw [s1] <;> rfl) (by decide) ?_
      obtain ⟨r, sC1, sM1, e1, e2, hI1⟩ := hs 1 0 (xs (x3 + 1).toNatClampNeg) (xs (x3 + 2).toNatClampNeg) (xs (x3 + 3).toNatClampNeg) sC sM (by decide) hI
      refine lv_aload_n hx hb dL_law_195 rfl (lv_at hl 1 rfl) ?_
      refine call_2 (q := (RX11, TX11, 10)) (n := 0) (As := []) (rv := some (.int r)) 0 11 F K E hA Z (show CT l yX11_read cX11_read 2 (some .int) 270 6721 D cy ee (wC ad cy sC) (wC ad cy sC1) (.ref (ad 0) :: []) (some (.int r)) from c_X11_read (n := n) (res := (r, sC1)) e1) ⟨wd1411, wd1412, wd1413, wd1414, wd1406⟩ (by decide +kernel) rfl rfl ⟨Nat.le_of_ble_eq_true rfl, Nat.le_of_ble_eq_true rfl⟩ ⟨Nat.le_of_ble_eq_true rfl, Nat.le_of_ble_eq_true rfl⟩ rfl hl.1 (Nat.le_of_ble_eq_true rfl) dL_law_196 (fun H locs Z => ?_)
      have Z := Z.swap
      refine lv_aload_n hx hb dL_law_199 rfl (lv_at hl 2 rfl) ?_
      refine call_2 (q := (RX12, TX12, 98)) (n := 0) (As := []) (rv := some (.int r)) 0 12 F K E hA Z (show CT l yX12_read cX12_read 3 (some .int) 6 137 D cy ee (wM ad2 cy sM) (wM ad2 cy sM1) (.ref (ad2 0) :: []) (some (.int r)) from c_X12_read (n := n) (res := (r, sM1)) e2) ⟨wd1415, wd1416, wd1417, wd1418, wd1008⟩ (by decide +kernel) rfl rfl ⟨Nat.le_of_ble_eq_true rfl, Nat.le_of_ble_eq_true rfl⟩ ⟨Nat.le_of_ble_eq_true rfl, Nat.le_of_ble_eq_true rfl⟩ rfl hl.1 (Nat.le_of_ble_eq_true rfl) dL_law_200 (fun H locs Z => ?_)
      have Z := Z.swap
      refine lv_icmp_eq (tgt := 675) hx hb dL_law_203 (by decide) (fun _ => ?_) (fun cx => absurd rfl cx)
      exact tail sC1 sM1 hI1 _ _ Z
    by_cases s2 : sel = 2
    · refine lv_tableIn (tgt := 208) hx hb dL_law_32 (by rw [s2] <;> decide) (by rw [s2] <;> decide) (by rw [s2] <;> rfl) (by decide) ?_
      obtain ⟨r, sC1, sM1, e1, e2, hI1⟩ := hs 2 0 (xs (x3 + 1).toNatClampNeg) (xs (x3 + 2).toNatClampNeg) (xs (x3 + 3).toNatClampNeg) sC sM (by decide) hI
      refine lv_aload_n hx hb dL_law_208 rfl (lv_at hl 1 rfl) ?_
      refine call_2 (q := (RX11, TX11, 10)) (n := 0) (As := []) (rv := some (.int r)) 0 11 F K E hA Z (show CT l yX11_place cX11_place 1 (some .int) 0 0 D cy ee (wC ad cy sC) (wC ad cy sC1) (.ref (ad 0) :: []) (some (.int r)) from c_X11_place (n := n) (res := (r, sC1)) e1) ⟨wd1419, wd1420, wd1421, wd1422, wd1406⟩ (by decide +kernel) rfl rfl ⟨Nat.le_of_ble_eq_true rfl, Nat.le_of_ble_eq_true rfl⟩ ⟨Nat.le_of_ble_eq_true rfl, Nat.le_of_ble_eq_true rfl⟩ rfl hl.1 (Nat.le_of_ble_eq_true rfl) dL_law_209 (fun H locs Z => ?_)
      have Z := Z.swap
      refine lv_aload_n hx hb dL_law_212 rfl (lv_at hl 2 rfl) ?_
      refine call_2 (q := (RX12, TX12, 98)) (n := 0) (As := []) (rv := some (.int r)) 0 12 F K E hA Z (show CT l yX12_place cX12_place 1 (some .int) 0 0 D cy ee (wM ad2 cy sM) (wM ad2 cy sM1) (.ref (ad2 0) :: []) (some (.int r)) from c_X12_place (n := n) (res := (r, sM1)) e2) ⟨wd1423, wd1424, wd1425, wd1426, wd1008⟩ (by decide +kernel) rfl rfl ⟨Nat.le_of_ble_eq_true rfl, Nat.le_of_ble_eq_true rfl⟩ ⟨Nat.le_of_ble_eq_true rfl, Nat.le_of_ble_eq_true rfl⟩ rfl hl.1 (Nat.le_of_ble_eq_true rfl) dL_law_213 (fun H locs Z => ?_)
      have Z := Z.swap
      refine lv_icmp_eq (tgt := 675) hx hb dL_law_216 (by decide) (fun _ => ?_) (fun cx => absurd rfl cx)
      exact tail sC1 sM1 hI1 _ _ Z
    by_cases s3 : sel = 3
    · refine lv_tableIn (tgt := 221) hx hb dL_law_32 (by rw [s3] <;> decide) (by rw [s3] <;> decide) (by rw [s3] <;> rfl) (by decide) ?_
      obtain ⟨r, sC1, sM1, e1, e2, hI1⟩ := hs 3 0 (xs (x3 + 1).toNatClampNeg) (xs (x3 + 2).toNatClampNeg) (xs (x3 + 3).toNatClampNeg) sC sM (by decide) hI
      refine lv_aload_n hx hb dL_law_221 rfl (lv_at hl 1 rfl) ?_
      refine lv_aload_n hx hb dL_law_222 rfl (lv_at hl 0 rfl) ?_
      refine lv_iload_n hx hb dL_law_223 rfl (lv_at hl 3 rfl) ?_
      refine lv_iconst (v := 1) hx hb dL_law_224 (by decide) ?_
      refine lv_iadd hx hb dL_law_225 ?_
      refine va_sld hx hb hX hbl hbA Z.2.2.2.2.2 hv1 dL_law_226 ?_
      refine call_2 (q := (RX11, TX11, 10)) (n := 1) (As := [.int (xs (x3 + 1).toNatClampNeg)]) (rv := some (.int r)) 0 11 F K E hA Z (show CT l yX11_count cX11_count 2 (some .int) 1 20 D cy ee (wC ad cy sC) (wC ad cy sC1) (.ref (ad 0) :: [.int (xs (x3 + 1).toNatClampNeg)]) (some (.int r)) from c_X11_count (n := n) (res := (r, sC1)) e1) ⟨wd1427, wd1428, wd1429, wd1430, wd1406⟩ (by decide +kernel) rfl rfl ⟨Nat.le_of_ble_eq_true rfl, Nat.le_of_ble_eq_true rfl⟩ ⟨Nat.le_of_ble_eq_true rfl, Nat.le_of_ble_eq_true rfl⟩ rfl hl.1 (Nat.le_of_ble_eq_true rfl) dL_law_227 (fun H locs Z => ?_)
      have Z := Z.swap
      refine lv_aload_n hx hb dL_law_230 rfl (lv_at hl 2 rfl) ?_
      refine lv_aload_n hx hb dL_law_231 rfl (lv_at hl 0 rfl) ?_
      refine lv_iload_n hx hb dL_law_232 rfl (lv_at hl 3 rfl) ?_
      refine lv_iconst (v := 1) hx hb dL_law_233 (by decide) ?_
      refine lv_iadd hx hb dL_law_234 ?_
      refine va_sld hx hb hX hbl hbA Z.2.2.2.2.2 hv1 dL_law_235 ?_
      refine call_2 (q := (RX12, TX12, 98)) (n := 1) (As := [.int (xs (x3 + 1).toNatClampNeg)]) (rv := some (.int r)) 0 12 F K E hA Z (show CT l yX12_count cX12_count 2 (some .int) 0 0 D cy ee (wM ad2 cy sM) (wM ad2 cy sM1) (.ref (ad2 0) :: [.int (xs (x3 + 1).toNatClampNeg)]) (some (.int r)) from c_X12_count (n := n) (res := (r, sM1)) e2) ⟨wd1431, wd1432, wd1433, wd1434, wd1008⟩ (by decide +kernel) rfl rfl ⟨Nat.le_of_ble_eq_true rfl, Nat.le_of_ble_eq_true rfl⟩ ⟨Nat.le_of_ble_eq_true rfl, Nat.le_of_ble_eq_true rfl⟩ rfl hl.1 (Nat.le_of_ble_eq_true rfl) dL_law_236 (fun H locs Z => ?_)
      have Z := Z.swap
      refine lv_icmp_eq (tgt := 675) hx hb dL_law_239 (by decide) (fun _ => ?_) (fun cx => absurd rfl cx)
      exact tail sC1 sM1 hI1 _ _ Z
    by_cases s4 : sel = 4
    · refine lv_tableIn (tgt := 244) hx hb dL_law_32 (by rw [s4] <;> decide) (by rw [s4] <;> decide) (by rw [s4] <;> rfl) (by decide) ?_
      obtain ⟨r, sC1, sM1, e1, e2, hI1⟩ := hs 4 0 (xs (x3 + 1).toNatClampNeg) (xs (x3 + 2).toNatClampNeg) (xs (x3 + 3).toNatClampNeg) sC sM (by decide) hI
      refine lv_aload_n hx hb dL_law_244 rfl (lv_at hl 1 rfl) ?_
      refine lv_aload_n hx hb dL_law_245 rfl (lv_at hl 0 rfl) ?_
      refine lv_iload_n hx hb dL_law_246 rfl (lv_at hl 3 rfl) ?_
      refine lv_iconst (v := 1) hx hb dL_law_247 (by decide) ?_
      refine lv_iadd hx hb dL_law_248 ?_
      refine va_sld hx hb hX hbl hbA Z.2.2.2.2.2 hv1 dL_law_249 ?_
      refine lv_aload_n hx hb dL_law_250 rfl (lv_at hl 0 rfl) ?_
      refine lv_iload_n hx hb dL_law_251 rfl (lv_at hl 3 rfl) ?_
      refine lv_iconst (v := 2) hx hb dL_law_252 (by decide) ?_
      refine lv_iadd hx hb dL_law_253 ?_
      refine va_sld hx hb hX hbl hbA Z.2.2.2.2.2 hv2 dL_law_254 ?_
      refine call_2 (q := (RX11, TX11, 10)) (n := 2) (As := [.int (xs (x3 + 1).toNatClampNeg), .int (xs (x3 + 2).toNatClampNeg)]) (rv := some (.int r)) 0 11 F K E hA Z (show CT l yX11_formula cX11_formula 3 (some .int) 2 42 D cy ee (wC ad cy sC) (wC ad cy sC1) (.ref (ad 0) :: [.int (xs (x3 + 1).toNatClampNeg), .int (xs (x3 + 2).toNatClampNeg)]) (some (.int r)) from c_X11_formula (n := n) (res := (r, sC1)) e1) ⟨wd1435, wd1436, wd1437, wd1438, wd1406⟩ (by decide +kernel) rfl rfl ⟨Nat.le_of_ble_eq_true rfl, Nat.le_of_ble_eq_true rfl⟩ ⟨Nat.le_of_ble_eq_true rfl, Nat.le_of_ble_eq_true rfl⟩ rfl hl.1 (Nat.le_of_ble_eq_true rfl) dL_law_255 (fun H locs Z => ?_)
      have Z := Z.swap
      refine lv_aload_n hx hb dL_law_258 rfl (lv_at hl 2 rfl) ?_
      refine lv_aload_n hx hb dL_law_259 rfl (lv_at hl 0 rfl) ?_
      refine lv_iload_n hx hb dL_law_260 rfl (lv_at hl 3 rfl) ?_
      refine lv_iconst (v := 1) hx hb dL_law_261 (by decide) ?_
      refine lv_iadd hx hb dL_law_262 ?_
      refine va_sld hx hb hX hbl hbA Z.2.2.2.2.2 hv1 dL_law_263 ?_
      refine lv_aload_n hx hb dL_law_264 rfl (lv_at hl 0 rfl) ?_
      refine lv_iload_n hx hb dL_law_265 rfl (lv_at hl 3 rfl) ?_
      refine lv_iconst (v := 2) hx hb dL_law_266 (by decide) ?_
      refine lv_iadd hx hb dL_law_267 ?_
      refine va_sld hx hb hX hbl hbA Z.2.2.2.2.2 hv2 dL_law_268 ?_
      refine call_2 (q := (RX12, TX12, 98)) (n := 2) (As := [.int (xs (x3 + 1).toNatClampNeg), .int (xs (x3 + 2).toNatClampNeg)]) (rv := some (.int r)) 0 12 F K E hA Z (show CT l yX12_formula cX12_formula 3 (some .int) 1 21 D cy ee (wM ad2 cy sM) (wM ad2 cy sM1) (.ref (ad2 0) :: [.int (xs (x3 + 1).toNatClampNeg), .int (xs (x3 + 2).toNatClampNeg)]) (some (.int r)) from c_X12_formula (n := n) (res := (r, sM1)) e2) ⟨wd1439, wd1440, wd1441, wd1442, wd1008⟩ (by decide +kernel) rfl rfl ⟨Nat.le_of_ble_eq_true rfl, Nat.le_of_ble_eq_true rfl⟩ ⟨Nat.le_of_ble_eq_true rfl, Nat.le_of_ble_eq_true rfl⟩ rfl hl.1 (Nat.le_of_ble_eq_true rfl) dL_law_269 (fun H locs Z => ?_)
      have Z := Z.swap
      refine lv_icmp_eq (tgt := 675) hx hb dL_law_272 (by decide) (fun _ => ?_) (fun cx => absurd rfl cx)
      exact tail sC1 sM1 hI1 _ _ Z
    by_cases s5 : sel = 5
    · refine lv_tableIn (tgt := 277) hx hb dL_law_32 (by rw [s5] <;> decide) (by rw [s5] <;> decide) (by rw [s5] <;> rfl) (by decide) ?_
      obtain ⟨r, sC1, sM1, e1, e2, hI1⟩ := hs 5 0 (xs (x3 + 1).toNatClampNeg) (xs (x3 + 2).toNatClampNeg) (xs (x3 + 3).toNatClampNeg) sC sM (by decide) hI
      refine lv_aload_n hx hb dL_law_277 rfl (lv_at hl 1 rfl) ?_
      refine lv_aload_n hx hb dL_law_278 rfl (lv_at hl 0 rfl) ?_
      refine lv_iload_n hx hb dL_law_279 rfl (lv_at hl 3 rfl) ?_
      refine lv_iconst (v := 1) hx hb dL_law_280 (by decide) ?_
      refine lv_iadd hx hb dL_law_281 ?_
      refine va_sld hx hb hX hbl hbA Z.2.2.2.2.2 hv1 dL_law_282 ?_
      refine lv_aload_n hx hb dL_law_283 rfl (lv_at hl 0 rfl) ?_
      refine lv_iload_n hx hb dL_law_284 rfl (lv_at hl 3 rfl) ?_
      refine lv_iconst (v := 2) hx hb dL_law_285 (by decide) ?_
      refine lv_iadd hx hb dL_law_286 ?_
      refine va_sld hx hb hX hbl hbA Z.2.2.2.2.2 hv2 dL_law_287 ?_
      refine lv_aload_n hx hb dL_law_288 rfl (lv_at hl 0 rfl) ?_
      refine lv_iload_n hx hb dL_law_289 rfl (lv_at hl 3 rfl) ?_
      refine lv_iconst (v := 3) hx hb dL_law_290 (by decide) ?_
      refine lv_iadd hx hb dL_law_291 ?_
      refine va_sld hx hb hX hbl hbA Z.2.2.2.2.2 hv3 dL_law_292 ?_
      refine call_2 (q := (RX11, TX11, 10)) (n := 3) (As := [.int (xs (x3 + 1).toNatClampNeg), .int (xs (x3 + 2).toNatClampNeg), .int (xs (x3 + 3).toNatClampNeg)]) (rv := some (.int r)) 0 11 F K E hA Z (show CT l yX11_make cX11_make 5 (some .int) 2 51 D cy ee (wC ad cy sC) (wC ad cy sC1) (.ref (ad 0) :: [.int (xs (x3 + 1).toNatClampNeg), .int (xs (x3 + 2).toNatClampNeg), .int (xs (x3 + 3).toNatClampNeg)]) (some (.int r)) from c_X11_make (n := n) (res := (r, sC1)) e1) ⟨wd1443, wd1444, wd1445, wd1446, wd1406⟩ (by decide +kernel) rfl rfl ⟨Nat.le_of_ble_eq_true rfl, Nat.le_of_ble_eq_true rfl⟩ ⟨Nat.le_of_ble_eq_true rfl, Nat.le_of_ble_eq_true rfl⟩ rfl hl.1 (Nat.le_of_ble_eq_true rfl) dL_law_293 (fun H locs Z => ?_)
      have Z := Z.swap
      refine lv_aload_n hx hb dL_law_296 rfl (lv_at hl 2 rfl) ?_
      refine lv_aload_n hx hb dL_law_297 rfl (lv_at hl 0 rfl) ?_
      refine lv_iload_n hx hb dL_law_298 rfl (lv_at hl 3 rfl) ?_
      refine lv_iconst (v := 1) hx hb dL_law_299 (by decide) ?_
      refine lv_iadd hx hb dL_law_300 ?_
      refine va_sld hx hb hX hbl hbA Z.2.2.2.2.2 hv1 dL_law_301 ?_
      refine lv_aload_n hx hb dL_law_302 rfl (lv_at hl 0 rfl) ?_
      refine lv_iload_n hx hb dL_law_303 rfl (lv_at hl 3 rfl) ?_
      refine lv_iconst (v := 2) hx hb dL_law_304 (by decide) ?_
      refine lv_iadd hx hb dL_law_305 ?_
      refine va_sld hx hb hX hbl hbA Z.2.2.2.2.2 hv2 dL_law_306 ?_
      refine lv_aload_n hx hb dL_law_307 rfl (lv_at hl 0 rfl) ?_
      refine lv_iload_n hx hb dL_law_308 rfl (lv_at hl 3 rfl) ?_
      refine lv_iconst (v := 3) hx hb dL_law_309 (by decide) ?_
      refine lv_iadd hx hb dL_law_310 ?_
      refine va_sld hx hb hX hbl hbA Z.2.2.2.2.2 hv3 dL_law_311 ?_
      refine call_2 (q := (RX12, TX12, 98)) (n := 3) (As := [.int (xs (x3 + 1).toNatClampNeg), .int (xs (x3 + 2).toNatClampNeg), .int (xs (x3 + 3).toNatClampNeg)]) (rv := some (.int r)) 0 12 F K E hA Z (show CT l yX12_make cX12_make 5 (some .int) 2 48 D cy ee (wM ad2 cy sM) (wM ad2 cy sM1) (.ref (ad2 0) :: [.int (xs (x3 + 1).toNatClampNeg), .int (xs (x3 + 2).toNatClampNeg), .int (xs (x3 + 3).toNatClampNeg)]) (some (.int r)) from c_X12_make (n := n) (res := (r, sM1)) e2) ⟨wd1447, wd1448, wd1449, wd1450, wd1008⟩ (by decide +kernel) rfl rfl ⟨Nat.le_of_ble_eq_true rfl, Nat.le_of_ble_eq_true rfl⟩ ⟨Nat.le_of_ble_eq_true rfl, Nat.le_of_ble_eq_true rfl⟩ rfl hl.1 (Nat.le_of_ble_eq_true rfl) dL_law_312 (fun H locs Z => ?_)
      have Z := Z.swap
      refine lv_icmp_eq (tgt := 675) hx hb dL_law_315 (by decide) (fun _ => ?_) (fun cx => absurd rfl cx)
      exact tail sC1 sM1 hI1 _ _ Z
    by_cases s6 : sel = 6
    · refine lv_tableIn (tgt := 320) hx hb dL_law_32 (by rw [s6] <;> decide) (by rw [s6] <;> decide) (by rw [s6] <;> rfl) (by decide) ?_
      obtain ⟨r, sC1, sM1, e1, e2, hI1⟩ := hs 6 0 (xs (x3 + 1).toNatClampNeg) (xs (x3 + 2).toNatClampNeg) (xs (x3 + 3).toNatClampNeg) sC sM (by decide) hI
      refine lv_aload_n hx hb dL_law_320 rfl (lv_at hl 1 rfl) ?_
      refine lv_aload_n hx hb dL_law_321 rfl (lv_at hl 0 rfl) ?_
      refine lv_iload_n hx hb dL_law_322 rfl (lv_at hl 3 rfl) ?_
      refine lv_iconst (v := 1) hx hb dL_law_323 (by decide) ?_
      refine lv_iadd hx hb dL_law_324 ?_
      refine va_sld hx hb hX hbl hbA Z.2.2.2.2.2 hv1 dL_law_325 ?_
      refine call_2 (q := (RX11, TX11, 10)) (n := 1) (As := [.int (xs (x3 + 1).toNatClampNeg)]) (rv := some (.int r)) 0 11 F K E hA Z (show CT l yX11_write cX11_write 2 (some .int) 8 176 D cy ee (wC ad cy sC) (wC ad cy sC1) (.ref (ad 0) :: [.int (xs (x3 + 1).toNatClampNeg)]) (some (.int r)) from c_X11_write (n := n) (res := (r, sC1)) e1) ⟨wd1451, wd1452, wd1453, wd1454, wd1406⟩ (by decide +kernel) rfl rfl ⟨Nat.le_of_ble_eq_true rfl, Nat.le_of_ble_eq_true rfl⟩ ⟨Nat.le_of_ble_eq_true rfl, Nat.le_of_ble_eq_true rfl⟩ rfl hl.1 (Nat.le_of_ble_eq_true rfl) dL_law_326 (fun H locs Z => ?_)
      have Z := Z.swap
      refine lv_aload_n hx hb dL_law_329 rfl (lv_at hl 2 rfl) ?_
      refine lv_aload_n hx hb dL_law_330 rfl (lv_at hl 0 rfl) ?_
      refine lv_iload_n hx hb dL_law_331 rfl (lv_at hl 3 rfl) ?_
      refine lv_iconst (v := 1) hx hb dL_law_332 (by decide) ?_
      refine lv_iadd hx hb dL_law_333 ?_
      refine va_sld hx hb hX hbl hbA Z.2.2.2.2.2 hv1 dL_law_334 ?_
      refine call_2 (q := (RX12, TX12, 98)) (n := 1) (As := [.int (xs (x3 + 1).toNatClampNeg)]) (rv := some (.int r)) 0 12 F K E hA Z (show CT l yX12_write cX12_write 2 (some .int) 4 90 D cy ee (wM ad2 cy sM) (wM ad2 cy sM1) (.ref (ad2 0) :: [.int (xs (x3 + 1).toNatClampNeg)]) (some (.int r)) from c_X12_write (n := n) (res := (r, sM1)) e2) ⟨wd1455, wd1456, wd1457, wd1458, wd1008⟩ (by decide +kernel) rfl rfl ⟨Nat.le_of_ble_eq_true rfl, Nat.le_of_ble_eq_true rfl⟩ ⟨Nat.le_of_ble_eq_true rfl, Nat.le_of_ble_eq_true rfl⟩ rfl hl.1 (Nat.le_of_ble_eq_true rfl) dL_law_335 (fun H locs Z => ?_)
      have Z := Z.swap
      refine lv_icmp_eq (tgt := 675) hx hb dL_law_338 (by decide) (fun _ => ?_) (fun cx => absurd rfl cx)
      exact tail sC1 sM1 hI1 _ _ Z
    by_cases s7 : sel = 7
    · refine lv_tableIn (tgt := 343) hx hb dL_law_32 (by rw [s7] <;> decide) (by rw [s7] <;> decide) (by rw [s7] <;> rfl) (by decide) ?_
      obtain ⟨r, sC1, sM1, e1, e2, hI1⟩ := hs 7 0 (xs (x3 + 1).toNatClampNeg) (xs (x3 + 2).toNatClampNeg) (xs (x3 + 3).toNatClampNeg) sC sM (by decide) hI
      refine lv_aload_n hx hb dL_law_343 rfl (lv_at hl 1 rfl) ?_
      refine lv_aload_n hx hb dL_law_344 rfl (lv_at hl 0 rfl) ?_
      refine lv_iload_n hx hb dL_law_345 rfl (lv_at hl 3 rfl) ?_
      refine lv_iconst (v := 1) hx hb dL_law_346 (by decide) ?_
      refine lv_iadd hx hb dL_law_347 ?_
      refine va_sld hx hb hX hbl hbA Z.2.2.2.2.2 hv1 dL_law_348 ?_
      refine call_2 (q := (RX11, TX11, 10)) (n := 1) (As := [.int (xs (x3 + 1).toNatClampNeg)]) (rv := some (.int r)) 0 11 F K E hA Z (show CT l yX11_octet cX11_octet 2 (some .int) 1 21 D cy ee (wC ad cy sC) (wC ad cy sC1) (.ref (ad 0) :: [.int (xs (x3 + 1).toNatClampNeg)]) (some (.int r)) from c_X11_octet (n := n) (res := (r, sC1)) e1) ⟨wd1459, wd1460, wd1461, wd1462, wd1406⟩ (by decide +kernel) rfl rfl ⟨Nat.le_of_ble_eq_true rfl, Nat.le_of_ble_eq_true rfl⟩ ⟨Nat.le_of_ble_eq_true rfl, Nat.le_of_ble_eq_true rfl⟩ rfl hl.1 (Nat.le_of_ble_eq_true rfl) dL_law_349 (fun H locs Z => ?_)
      have Z := Z.swap
      refine lv_aload_n hx hb dL_law_352 rfl (lv_at hl 2 rfl) ?_
      refine lv_aload_n hx hb dL_law_353 rfl (lv_at hl 0 rfl) ?_
      refine lv_iload_n hx hb dL_law_354 rfl (lv_at hl 3 rfl) ?_
      refine lv_iconst (v := 1) hx hb dL_law_355 (by decide) ?_
      refine lv_iadd hx hb dL_law_356 ?_
      refine va_sld hx hb hX hbl hbA Z.2.2.2.2.2 hv1 dL_law_357 ?_
      refine call_2 (q := (RX12, TX12, 98)) (n := 1) (As := [.int (xs (x3 + 1).toNatClampNeg)]) (rv := some (.int r)) 0 12 F K E hA Z (show CT l yX12_octet cX12_octet 2 (some .int) 0 0 D cy ee (wM ad2 cy sM) (wM ad2 cy sM1) (.ref (ad2 0) :: [.int (xs (x3 + 1).toNatClampNeg)]) (some (.int r)) from c_X12_octet (n := n) (res := (r, sM1)) e2) ⟨wd1463, wd1464, wd1465, wd1466, wd1008⟩ (by decide +kernel) rfl rfl ⟨Nat.le_of_ble_eq_true rfl, Nat.le_of_ble_eq_true rfl⟩ ⟨Nat.le_of_ble_eq_true rfl, Nat.le_of_ble_eq_true rfl⟩ rfl hl.1 (Nat.le_of_ble_eq_true rfl) dL_law_358 (fun H locs Z => ?_)
      have Z := Z.swap
      refine lv_icmp_eq (tgt := 675) hx hb dL_law_361 (by decide) (fun _ => ?_) (fun cx => absurd rfl cx)
      exact tail sC1 sM1 hI1 _ _ Z
    by_cases s8 : sel = 8
    · refine lv_tableIn (tgt := 366) hx hb dL_law_32 (by rw [s8] <;> decide) (by rw [s8] <;> decide) (by rw [s8] <;> rfl) (by decide) ?_
      obtain ⟨r, sC1, sM1, e1, e2, hI1⟩ := hs 8 0 (xs (x3 + 1).toNatClampNeg) (xs (x3 + 2).toNatClampNeg) (xs (x3 + 3).toNatClampNeg) sC sM (by decide) hI
      refine lv_aload_n hx hb dL_law_366 rfl (lv_at hl 1 rfl) ?_
      refine lv_aload_n hx hb dL_law_367 rfl (lv_at hl 0 rfl) ?_
      refine lv_iload_n hx hb dL_law_368 rfl (lv_at hl 3 rfl) ?_
      refine lv_iconst (v := 1) hx hb dL_law_369 (by decide) ?_
      refine lv_iadd hx hb dL_law_370 ?_
      refine va_sld hx hb hX hbl hbA Z.2.2.2.2.2 hv1 dL_law_371 ?_
      refine call_2 (q := (RX11, TX11, 10)) (n := 1) (As := [.int (xs (x3 + 1).toNatClampNeg)]) (rv := some (.int r)) 0 11 F K E hA Z (show CT l yX11_given cX11_given 2 (some .int) 1 21 D cy ee (wC ad cy sC) (wC ad cy sC1) (.ref (ad 0) :: [.int (xs (x3 + 1).toNatClampNeg)]) (some (.int r)) from c_X11_given (n := n) (res := (r, sC1)) e1) ⟨wd1467, wd1468, wd1469, wd1470, wd1406⟩ (by decide +kernel) rfl rfl ⟨Nat.le_of_ble_eq_true rfl, Nat.le_of_ble_eq_true rfl⟩ ⟨Nat.le_of_ble_eq_true rfl, Nat.le_of_ble_eq_true rfl⟩ rfl hl.1 (Nat.le_of_ble_eq_true rfl) dL_law_372 (fun H locs Z => ?_)
      have Z := Z.swap
      refine lv_aload_n hx hb dL_law_375 rfl (lv_at hl 2 rfl) ?_
      refine lv_aload_n hx hb dL_law_376 rfl (lv_at hl 0 rfl) ?_
      refine lv_iload_n hx hb dL_law_377 rfl (lv_at hl 3 rfl) ?_
      refine lv_iconst (v := 1) hx hb dL_law_378 (by decide) ?_
      refine lv_iadd hx hb dL_law_379 ?_
      refine va_sld hx hb hX hbl hbA Z.2.2.2.2.2 hv1 dL_law_380 ?_
      refine call_2 (q := (RX12, TX12, 98)) (n := 1) (As := [.int (xs (x3 + 1).toNatClampNeg)]) (rv := some (.int r)) 0 12 F K E hA Z (show CT l yX12_given cX12_given 2 (some .int) 1 21 D cy ee (wM ad2 cy sM) (wM ad2 cy sM1) (.ref (ad2 0) :: [.int (xs (x3 + 1).toNatClampNeg)]) (some (.int r)) from c_X12_given (n := n) (res := (r, sM1)) e2) ⟨wd1471, wd1472, wd1473, wd1474, wd1008⟩ (by decide +kernel) rfl rfl ⟨Nat.le_of_ble_eq_true rfl, Nat.le_of_ble_eq_true rfl⟩ ⟨Nat.le_of_ble_eq_true rfl, Nat.le_of_ble_eq_true rfl⟩ rfl hl.1 (Nat.le_of_ble_eq_true rfl) dL_law_381 (fun H locs Z => ?_)
      have Z := Z.swap
      refine lv_icmp_eq (tgt := 675) hx hb dL_law_384 (by decide) (fun _ => ?_) (fun cx => absurd rfl cx)
      exact tail sC1 sM1 hI1 _ _ Z
    by_cases s9 : sel = 9
    · refine lv_tableIn (tgt := 389) hx hb dL_law_32 (by rw [s9] <;> decide) (by rw [s9] <;> decide) (by rw [s9] <;> rfl) (by decide) ?_
      obtain ⟨r, sC1, sM1, e1, e2, hI1⟩ := hs 9 0 (xs (x3 + 1).toNatClampNeg) (xs (x3 + 2).toNatClampNeg) (xs (x3 + 3).toNatClampNeg) sC sM (by decide) hI
      refine lv_aload_n hx hb dL_law_389 rfl (lv_at hl 1 rfl) ?_
      refine call_2 (q := (RX11, TX11, 10)) (n := 0) (As := []) (rv := some (.int r)) 0 11 F K E hA Z (show CT l yX11_forget cX11_forget 2 (some .int) 0 0 D cy ee (wC ad cy sC) (wC ad cy sC1) (.ref (ad 0) :: []) (some (.int r)) from c_X11_forget (n := n) (res := (r, sC1)) e1) ⟨wd1475, wd1476, wd1477, wd1478, wd1406⟩ (by decide +kernel) rfl rfl ⟨Nat.le_of_ble_eq_true rfl, Nat.le_of_ble_eq_true rfl⟩ ⟨Nat.le_of_ble_eq_true rfl, Nat.le_of_ble_eq_true rfl⟩ rfl hl.1 (Nat.le_of_ble_eq_true rfl) dL_law_390 (fun H locs Z => ?_)
      have Z := Z.swap
      refine lv_aload_n hx hb dL_law_393 rfl (lv_at hl 2 rfl) ?_
      refine call_2 (q := (RX12, TX12, 98)) (n := 0) (As := []) (rv := some (.int r)) 0 12 F K E hA Z (show CT l yX12_forget cX12_forget 2 (some .int) 0 0 D cy ee (wM ad2 cy sM) (wM ad2 cy sM1) (.ref (ad2 0) :: []) (some (.int r)) from c_X12_forget (n := n) (res := (r, sM1)) e2) ⟨wd1479, wd1480, wd1481, wd1482, wd1008⟩ (by decide +kernel) rfl rfl ⟨Nat.le_of_ble_eq_true rfl, Nat.le_of_ble_eq_true rfl⟩ ⟨Nat.le_of_ble_eq_true rfl, Nat.le_of_ble_eq_true rfl⟩ rfl hl.1 (Nat.le_of_ble_eq_true rfl) dL_law_394 (fun H locs Z => ?_)
      have Z := Z.swap
      refine lv_icmp_eq (tgt := 675) hx hb dL_law_397 (by decide) (fun _ => ?_) (fun cx => absurd rfl cx)
      exact tail sC1 sM1 hI1 _ _ Z
    by_cases s10 : sel = 10
    · refine lv_tableIn (tgt := 402) hx hb dL_law_32 (by rw [s10] <;> decide) (by rw [s10] <;> decide) (by rw [s10] <;> rfl) (by decide) ?_
      obtain ⟨r, sC1, sM1, e1, e2, hI1⟩ := hs 10 0 (xs (x3 + 1).toNatClampNeg) (xs (x3 + 2).toNatClampNeg) (xs (x3 + 3).toNatClampNeg) sC sM (by decide) hI
      refine lv_aload_n hx hb dL_law_402 rfl (lv_at hl 1 rfl) ?_
      refine lv_aload_n hx hb dL_law_403 rfl (lv_at hl 0 rfl) ?_
      refine lv_iload_n hx hb dL_law_404 rfl (lv_at hl 3 rfl) ?_
      refine lv_iconst (v := 1) hx hb dL_law_405 (by decide) ?_
      refine lv_iadd hx hb dL_law_406 ?_
      refine va_sld hx hb hX hbl hbA Z.2.2.2.2.2 hv1 dL_law_407 ?_
      refine lv_aload_n hx hb dL_law_408 rfl (lv_at hl 0 rfl) ?_
      refine lv_iload_n hx hb dL_law_409 rfl (lv_at hl 3 rfl) ?_
      refine lv_iconst (v := 2) hx hb dL_law_410 (by decide) ?_
      refine lv_iadd hx hb dL_law_411 ?_
      refine va_sld hx hb hX hbl hbA Z.2.2.2.2.2 hv2 dL_law_412 ?_
      refine call_2 (q := (RX11, TX11, 10)) (n := 2) (As := [.int (xs (x3 + 1).toNatClampNeg), .int (xs (x3 + 2).toNatClampNeg)]) (rv := some (.int r)) 0 11 F K E hA Z (show CT l yX11_prove cX11_prove 3 (some .int) 8 201 D cy ee (wC ad cy sC) (wC ad cy sC1) (.ref (ad 0) :: [.int (xs (x3 + 1).toNatClampNeg), .int (xs (x3 + 2).toNatClampNeg)]) (some (.int r)) from c_X11_prove (n := n) (res := (r, sC1)) e1) ⟨wd1483, wd1484, wd1485, wd1486, wd1406⟩ (by decide +kernel) rfl rfl ⟨Nat.le_of_ble_eq_true rfl, Nat.le_of_ble_eq_true rfl⟩ ⟨Nat.le_of_ble_eq_true rfl, Nat.le_of_ble_eq_true rfl⟩ rfl hl.1 (Nat.le_of_ble_eq_true rfl) dL_law_413 (fun H locs Z => ?_)
      have Z := Z.swap
      refine lv_aload_n hx hb dL_law_416 rfl (lv_at hl 2 rfl) ?_
      refine lv_aload_n hx hb dL_law_417 rfl (lv_at hl 0 rfl) ?_
      refine lv_iload_n hx hb dL_law_418 rfl (lv_at hl 3 rfl) ?_
      refine lv_iconst (v := 1) hx hb dL_law_419 (by decide) ?_
      refine lv_iadd hx hb dL_law_420 ?_
      refine va_sld hx hb hX hbl hbA Z.2.2.2.2.2 hv1 dL_law_421 ?_
      refine lv_aload_n hx hb dL_law_422 rfl (lv_at hl 0 rfl) ?_
      refine lv_iload_n hx hb dL_law_423 rfl (lv_at hl 3 rfl) ?_
      refine lv_iconst (v := 2) hx hb dL_law_424 (by decide) ?_
      refine lv_iadd hx hb dL_law_425 ?_
      refine va_sld hx hb hX hbl hbA Z.2.2.2.2.2 hv2 dL_law_426 ?_
      refine call_2 (q := (RX12, TX12, 98)) (n := 2) (As := [.int (xs (x3 + 1).toNatClampNeg), .int (xs (x3 + 2).toNatClampNeg)]) (rv := some (.int r)) 0 12 F K E hA Z (show CT l yX12_prove cX12_prove 5 (some .int) 6 154 D cy ee (wM ad2 cy sM) (wM ad2 cy sM1) (.ref (ad2 0) :: [.int (xs (x3 + 1).toNatClampNeg), .int (xs (x3 + 2).toNatClampNeg)]) (some (.int r)) from c_X12_prove (n := n) (res := (r, sM1)) e2) ⟨wd1487, wd1488, wd1489, wd1490, wd1008⟩ (by decide +kernel) rfl rfl ⟨Nat.le_of_ble_eq_true rfl, Nat.le_of_ble_eq_true rfl⟩ ⟨Nat.le_of_ble_eq_true rfl, Nat.le_of_ble_eq_true rfl⟩ rfl hl.1 (Nat.le_of_ble_eq_true rfl) dL_law_427 (fun H locs Z => ?_)
      have Z := Z.swap
      refine lv_icmp_eq (tgt := 675) hx hb dL_law_430 (by decide) (fun _ => ?_) (fun cx => absurd rfl cx)
      exact tail sC1 sM1 hI1 _ _ Z
    by_cases s11 : sel = 11
    · refine lv_tableIn (tgt := 435) hx hb dL_law_32 (by rw [s11] <;> decide) (by rw [s11] <;> decide) (by rw [s11] <;> rfl) (by decide) ?_
      obtain ⟨r, sC1, sM1, e1, e2, hI1⟩ := hs 11 0 (xs (x3 + 1).toNatClampNeg) (xs (x3 + 2).toNatClampNeg) (xs (x3 + 3).toNatClampNeg) sC sM (by decide) hI
      refine lv_aload_n hx hb dL_law_435 rfl (lv_at hl 1 rfl) ?_
      refine lv_aload_n hx hb dL_law_436 rfl (lv_at hl 0 rfl) ?_
      refine lv_iload_n hx hb dL_law_437 rfl (lv_at hl 3 rfl) ?_
      refine lv_iconst (v := 1) hx hb dL_law_438 (by decide) ?_
      refine lv_iadd hx hb dL_law_439 ?_
      refine va_sld hx hb hX hbl hbA Z.2.2.2.2.2 hv1 dL_law_440 ?_
      refine call_2 (q := (RX11, TX11, 10)) (n := 1) (As := [.int (xs (x3 + 1).toNatClampNeg)]) (rv := some (.int r)) 0 11 F K E hA Z (show CT l yX11_told cX11_told 2 (some .int) 0 0 D cy ee (wC ad cy sC) (wC ad cy sC1) (.ref (ad 0) :: [.int (xs (x3 + 1).toNatClampNeg)]) (some (.int r)) from c_X11_told (n := n) (res := (r, sC1)) e1) ⟨wd1491, wd1492, wd1493, wd1494, wd1406⟩ (by decide +kernel) rfl rfl ⟨Nat.le_of_ble_eq_true rfl, Nat.le_of_ble_eq_true rfl⟩ ⟨Nat.le_of_ble_eq_true rfl, Nat.le_of_ble_eq_true rfl⟩ rfl hl.1 (Nat.le_of_ble_eq_true rfl) dL_law_441 (fun H locs Z => ?_)
      have Z := Z.swap
      refine lv_aload_n hx hb dL_law_444 rfl (lv_at hl 2 rfl) ?_
      refine lv_aload_n hx hb dL_law_445 rfl (lv_at hl 0 rfl) ?_
      refine lv_iload_n hx hb dL_law_446 rfl (lv_at hl 3 rfl) ?_
      refine lv_iconst (v := 1) hx hb dL_law_447 (by decide) ?_
      refine lv_iadd hx hb dL_law_448 ?_
      refine va_sld hx hb hX hbl hbA Z.2.2.2.2.2 hv1 dL_law_449 ?_
      refine call_2 (q := (RX12, TX12, 98)) (n := 1) (As := [.int (xs (x3 + 1).toNatClampNeg)]) (rv := some (.int r)) 0 12 F K E hA Z (show CT l yX12_told cX12_told 2 (some .int) 0 0 D cy ee (wM ad2 cy sM) (wM ad2 cy sM1) (.ref (ad2 0) :: [.int (xs (x3 + 1).toNatClampNeg)]) (some (.int r)) from c_X12_told (n := n) (res := (r, sM1)) e2) ⟨wd1495, wd1496, wd1497, wd1498, wd1008⟩ (by decide +kernel) rfl rfl ⟨Nat.le_of_ble_eq_true rfl, Nat.le_of_ble_eq_true rfl⟩ ⟨Nat.le_of_ble_eq_true rfl, Nat.le_of_ble_eq_true rfl⟩ rfl hl.1 (Nat.le_of_ble_eq_true rfl) dL_law_450 (fun H locs Z => ?_)
      have Z := Z.swap
      refine lv_icmp_eq (tgt := 675) hx hb dL_law_453 (by decide) (fun _ => ?_) (fun cx => absurd rfl cx)
      exact tail sC1 sM1 hI1 _ _ Z
    by_cases s12 : sel = 12
    · refine lv_tableIn (tgt := 458) hx hb dL_law_32 (by rw [s12] <;> decide) (by rw [s12] <;> decide) (by rw [s12] <;> rfl) (by decide) ?_
      obtain ⟨r, sC1, sM1, e1, e2, hI1⟩ := hs 12 0 (xs (x3 + 1).toNatClampNeg) (xs (x3 + 2).toNatClampNeg) (xs (x3 + 3).toNatClampNeg) sC sM (by decide) hI
      refine lv_aload_n hx hb dL_law_458 rfl (lv_at hl 1 rfl) ?_
      refine call_2 (q := (RX11, TX11, 10)) (n := 0) (As := []) (rv := some (.int r)) 0 11 F K E hA Z (show CT l yX11_proof cX11_proof 1 (some .int) 10 229 D cy ee (wC ad cy sC) (wC ad cy sC1) (.ref (ad 0) :: []) (some (.int r)) from c_X11_proof (n := n) (res := (r, sC1)) e1) ⟨wd1499, wd1500, wd1501, wd1502, wd1406⟩ (by decide +kernel) rfl rfl ⟨Nat.le_of_ble_eq_true rfl, Nat.le_of_ble_eq_true rfl⟩ ⟨Nat.le_of_ble_eq_true rfl, Nat.le_of_ble_eq_true rfl⟩ rfl hl.1 (Nat.le_of_ble_eq_true rfl) dL_law_459 (fun H locs Z => ?_)
      have Z := Z.swap
      refine lv_aload_n hx hb dL_law_462 rfl (lv_at hl 2 rfl) ?_
      refine call_2 (q := (RX12, TX12, 98)) (n := 0) (As := []) (rv := some (.int r)) 0 12 F K E hA Z (show CT l yX12_proof cX12_proof 3 (some .int) 4 90 D cy ee (wM ad2 cy sM) (wM ad2 cy sM1) (.ref (ad2 0) :: []) (some (.int r)) from c_X12_proof (n := n) (res := (r, sM1)) e2) ⟨wd1503, wd1504, wd1505, wd1506, wd1008⟩ (by decide +kernel) rfl rfl ⟨Nat.le_of_ble_eq_true rfl, Nat.le_of_ble_eq_true rfl⟩ ⟨Nat.le_of_ble_eq_true rfl, Nat.le_of_ble_eq_true rfl⟩ rfl hl.1 (Nat.le_of_ble_eq_true rfl) dL_law_463 (fun H locs Z => ?_)
      have Z := Z.swap
      refine lv_icmp_eq (tgt := 675) hx hb dL_law_466 (by decide) (fun _ => ?_) (fun cx => absurd rfl cx)
      exact tail sC1 sM1 hI1 _ _ Z
    by_cases s13 : sel = 13
    · refine lv_tableIn (tgt := 471) hx hb dL_law_32 (by rw [s13] <;> decide) (by rw [s13] <;> decide) (by rw [s13] <;> rfl) (by decide) ?_
      obtain ⟨r, sC1, sM1, e1, e2, hI1⟩ := hs 13 0 (xs (x3 + 1).toNatClampNeg) (xs (x3 + 2).toNatClampNeg) (xs (x3 + 3).toNatClampNeg) sC sM (by decide) hI
      refine lv_aload_n hx hb dL_law_471 rfl (lv_at hl 1 rfl) ?_
      refine lv_aload_n hx hb dL_law_472 rfl (lv_at hl 0 rfl) ?_
      refine lv_iload_n hx hb dL_law_473 rfl (lv_at hl 3 rfl) ?_
      refine lv_iconst (v := 1) hx hb dL_law_474 (by decide) ?_
      refine lv_iadd hx hb dL_law_475 ?_
      refine va_sld hx hb hX hbl hbA Z.2.2.2.2.2 hv1 dL_law_476 ?_
      refine call_2 (q := (RX11, TX11, 10)) (n := 1) (As := [.int (xs (x3 + 1).toNatClampNeg)]) (rv := some (.int r)) 0 11 F K E hA Z (show CT l yX11_check cX11_check 3 (some .int) 401 10128 D cy ee (wC ad cy sC) (wC ad cy sC1) (.ref (ad 0) :: [.int (xs (x3 + 1).toNatClampNeg)]) (some (.int r)) from c_X11_check (n := n) (res := (r, sC1)) e1) ⟨wd1507, wd1508, wd1509, wd1510, wd1406⟩ (by decide +kernel) rfl rfl ⟨Nat.le_of_ble_eq_true rfl, Nat.le_of_ble_eq_true rfl⟩ ⟨Nat.le_of_ble_eq_true rfl, Nat.le_of_ble_eq_true rfl⟩ rfl hl.1 (Nat.le_of_ble_eq_true rfl) dL_law_477 (fun H locs Z => ?_)
      have Z := Z.swap
      refine lv_aload_n hx hb dL_law_480 rfl (lv_at hl 2 rfl) ?_
      refine lv_aload_n hx hb dL_law_481 rfl (lv_at hl 0 rfl) ?_
      refine lv_iload_n hx hb dL_law_482 rfl (lv_at hl 3 rfl) ?_
      refine lv_iconst (v := 1) hx hb dL_law_483 (by decide) ?_
      refine lv_iadd hx hb dL_law_484 ?_
      refine va_sld hx hb hX hbl hbA Z.2.2.2.2.2 hv1 dL_law_485 ?_
      refine call_2 (q := (RX12, TX12, 98)) (n := 1) (As := [.int (xs (x3 + 1).toNatClampNeg)]) (rv := some (.int r)) 0 12 F K E hA Z (show CT l yX12_check cX12_check 4 (some .int) 8 191 D cy ee (wM ad2 cy sM) (wM ad2 cy sM1) (.ref (ad2 0) :: [.int (xs (x3 + 1).toNatClampNeg)]) (some (.int r)) from c_X12_check (n := n) (res := (r, sM1)) e2) ⟨wd1511, wd1512, wd1513, wd1514, wd1008⟩ (by decide +kernel) rfl rfl ⟨Nat.le_of_ble_eq_true rfl, Nat.le_of_ble_eq_true rfl⟩ ⟨Nat.le_of_ble_eq_true rfl, Nat.le_of_ble_eq_true rfl⟩ rfl hl.1 (Nat.le_of_ble_eq_true rfl) dL_law_486 (fun H locs Z => ?_)
      have Z := Z.swap
      refine lv_icmp_eq (tgt := 675) hx hb dL_law_489 (by decide) (fun _ => ?_) (fun cx => absurd rfl cx)
      exact tail sC1 sM1 hI1 _ _ Z
    by_cases s14 : sel = 14
    · refine lv_tableIn (tgt := 494) hx hb dL_law_32 (by rw [s14] <;> decide) (by rw [s14] <;> decide) (by rw [s14] <;> rfl) (by decide) ?_
      obtain ⟨r, sC1, sM1, e1, e2, hI1⟩ := hs 14 0 (xs (x3 + 1).toNatClampNeg) (xs (x3 + 2).toNatClampNeg) (xs (x3 + 3).toNatClampNeg) sC sM (by decide) hI
      refine lv_aload_n hx hb dL_law_494 rfl (lv_at hl 1 rfl) ?_
      refine lv_aload_n hx hb dL_law_495 rfl (lv_at hl 0 rfl) ?_
      refine lv_iload_n hx hb dL_law_496 rfl (lv_at hl 3 rfl) ?_
      refine lv_iconst (v := 1) hx hb dL_law_497 (by decide) ?_
      refine lv_iadd hx hb dL_law_498 ?_
      refine va_sld hx hb hX hbl hbA Z.2.2.2.2.2 hv1 dL_law_499 ?_
      refine call_2 (q := (RX11, TX11, 10)) (n := 1) (As := [.int (xs (x3 + 1).toNatClampNeg)]) (rv := some (.int r)) 0 11 F K E hA Z (show CT l yX11_classical cX11_classical 2 (some .int) 5 116 D cy ee (wC ad cy sC) (wC ad cy sC1) (.ref (ad 0) :: [.int (xs (x3 + 1).toNatClampNeg)]) (some (.int r)) from c_X11_classical (n := n) (res := (r, sC1)) e1) ⟨wd1515, wd1516, wd1517, wd1518, wd1406⟩ (by decide +kernel) rfl rfl ⟨Nat.le_of_ble_eq_true rfl, Nat.le_of_ble_eq_true rfl⟩ ⟨Nat.le_of_ble_eq_true rfl, Nat.le_of_ble_eq_true rfl⟩ rfl hl.1 (Nat.le_of_ble_eq_true rfl) dL_law_500 (fun H locs Z => ?_)
      have Z := Z.swap
      refine lv_aload_n hx hb dL_law_503 rfl (lv_at hl 2 rfl) ?_
      refine lv_aload_n hx hb dL_law_504 rfl (lv_at hl 0 rfl) ?_
      refine lv_iload_n hx hb dL_law_505 rfl (lv_at hl 3 rfl) ?_
      refine lv_iconst (v := 1) hx hb dL_law_506 (by decide) ?_
      refine lv_iadd hx hb dL_law_507 ?_
      refine va_sld hx hb hX hbl hbA Z.2.2.2.2.2 hv1 dL_law_508 ?_
      refine call_2 (q := (RX12, TX12, 98)) (n := 1) (As := [.int (xs (x3 + 1).toNatClampNeg)]) (rv := some (.int r)) 0 12 F K E hA Z (show CT l yX12_classical cX12_classical 5 (some .int) 1 26 D cy ee (wM ad2 cy sM) (wM ad2 cy sM1) (.ref (ad2 0) :: [.int (xs (x3 + 1).toNatClampNeg)]) (some (.int r)) from c_X12_classical (n := n) (res := (r, sM1)) e2) ⟨wd1519, wd1520, wd1521, wd1522, wd1008⟩ (by decide +kernel) rfl rfl ⟨Nat.le_of_ble_eq_true rfl, Nat.le_of_ble_eq_true rfl⟩ ⟨Nat.le_of_ble_eq_true rfl, Nat.le_of_ble_eq_true rfl⟩ rfl hl.1 (Nat.le_of_ble_eq_true rfl) dL_law_509 (fun H locs Z => ?_)
      have Z := Z.swap
      refine lv_icmp_eq (tgt := 675) hx hb dL_law_512 (by decide) (fun _ => ?_) (fun cx => absurd rfl cx)
      exact tail sC1 sM1 hI1 _ _ Z
    by_cases s15 : sel = 15
    · refine lv_tableIn (tgt := 517) hx hb dL_law_32 (by rw [s15] <;> decide) (by rw [s15] <;> decide) (by rw [s15] <;> rfl) (by decide) ?_
      obtain ⟨r, sC1, sM1, e1, e2, hI1⟩ := hs 15 0 (xs (x3 + 1).toNatClampNeg) (xs (x3 + 2).toNatClampNeg) (xs (x3 + 3).toNatClampNeg) sC sM (by decide) hI
      refine lv_aload_n hx hb dL_law_517 rfl (lv_at hl 1 rfl) ?_
      refine call_2 (q := (RX11, TX11, 10)) (n := 0) (As := []) (rv := some (.int r)) 0 11 F K E hA Z (show CT l yX11_refute cX11_refute 1 (some .int) 4 93 D cy ee (wC ad cy sC) (wC ad cy sC1) (.ref (ad 0) :: []) (some (.int r)) from c_X11_refute (n := n) (res := (r, sC1)) e1) ⟨wd1523, wd1524, wd1525, wd1526, wd1406⟩ (by decide +kernel) rfl rfl ⟨Nat.le_of_ble_eq_true rfl, Nat.le_of_ble_eq_true rfl⟩ ⟨Nat.le_of_ble_eq_true rfl, Nat.le_of_ble_eq_true rfl⟩ rfl hl.1 (Nat.le_of_ble_eq_true rfl) dL_law_518 (fun H locs Z => ?_)
      have Z := Z.swap
      refine lv_aload_n hx hb dL_law_521 rfl (lv_at hl 2 rfl) ?_
      refine call_2 (q := (RX12, TX12, 98)) (n := 0) (As := []) (rv := some (.int r)) 0 12 F K E hA Z (show CT l yX12_refute cX12_refute 4 (some .int) 1 26 D cy ee (wM ad2 cy sM) (wM ad2 cy sM1) (.ref (ad2 0) :: []) (some (.int r)) from c_X12_refute (n := n) (res := (r, sM1)) e2) ⟨wd1527, wd1528, wd1529, wd1530, wd1008⟩ (by decide +kernel) rfl rfl ⟨Nat.le_of_ble_eq_true rfl, Nat.le_of_ble_eq_true rfl⟩ ⟨Nat.le_of_ble_eq_true rfl, Nat.le_of_ble_eq_true rfl⟩ rfl hl.1 (Nat.le_of_ble_eq_true rfl) dL_law_522 (fun H locs Z => ?_)
      have Z := Z.swap
      refine lv_icmp_eq (tgt := 675) hx hb dL_law_525 (by decide) (fun _ => ?_) (fun cx => absurd rfl cx)
      exact tail sC1 sM1 hI1 _ _ Z
    by_cases s16 : sel = 16
    · refine lv_tableIn (tgt := 530) hx hb dL_law_32 (by rw [s16] <;> decide) (by rw [s16] <;> decide) (by rw [s16] <;> rfl) (by decide) ?_
      obtain ⟨r, sC1, sM1, e1, e2, hI1⟩ := hs 16 0 (xs (x3 + 1).toNatClampNeg) (xs (x3 + 2).toNatClampNeg) (xs (x3 + 3).toNatClampNeg) sC sM (by decide) hI
      refine lv_aload_n hx hb dL_law_530 rfl (lv_at hl 1 rfl) ?_
      refine call_2 (q := (RX11, TX11, 10)) (n := 0) (As := []) (rv := some (.int r)) 0 11 F K E hA Z (show CT l yX11_clear cX11_clear 2 (some .int) 1 20 D cy ee (wC ad cy sC) (wC ad cy sC1) (.ref (ad 0) :: []) (some (.int r)) from c_X11_clear (n := n) (res := (r, sC1)) e1) ⟨wd1531, wd1532, wd1533, wd1534, wd1406⟩ (by decide +kernel) rfl rfl ⟨Nat.le_of_ble_eq_true rfl, Nat.le_of_ble_eq_true rfl⟩ ⟨Nat.le_of_ble_eq_true rfl, Nat.le_of_ble_eq_true rfl⟩ rfl hl.1 (Nat.le_of_ble_eq_true rfl) dL_law_531 (fun H locs Z => ?_)
      have Z := Z.swap
      refine lv_aload_n hx hb dL_law_534 rfl (lv_at hl 2 rfl) ?_
      refine call_2 (q := (RX12, TX12, 98)) (n := 0) (As := []) (rv := some (.int r)) 0 12 F K E hA Z (show CT l yX12_clear cX12_clear 2 (some .int) 0 0 D cy ee (wM ad2 cy sM) (wM ad2 cy sM1) (.ref (ad2 0) :: []) (some (.int r)) from c_X12_clear (n := n) (res := (r, sM1)) e2) ⟨wd1535, wd1536, wd1537, wd1538, wd1008⟩ (by decide +kernel) rfl rfl ⟨Nat.le_of_ble_eq_true rfl, Nat.le_of_ble_eq_true rfl⟩ ⟨Nat.le_of_ble_eq_true rfl, Nat.le_of_ble_eq_true rfl⟩ rfl hl.1 (Nat.le_of_ble_eq_true rfl) dL_law_535 (fun H locs Z => ?_)
      have Z := Z.swap
      refine lv_icmp_eq (tgt := 675) hx hb dL_law_538 (by decide) (fun _ => ?_) (fun cx => absurd rfl cx)
      exact tail sC1 sM1 hI1 _ _ Z
    by_cases s17 : sel = 17
    · refine lv_tableIn (tgt := 543) hx hb dL_law_32 (by rw [s17] <;> decide) (by rw [s17] <;> decide) (by rw [s17] <;> rfl) (by decide) ?_
      obtain ⟨r, sC1, sM1, e1, e2, hI1⟩ := hs 17 0 (xs (x3 + 1).toNatClampNeg) (xs (x3 + 2).toNatClampNeg) (xs (x3 + 3).toNatClampNeg) sC sM (by decide) hI
      refine lv_aload_n hx hb dL_law_543 rfl (lv_at hl 1 rfl) ?_
      refine lv_aload_n hx hb dL_law_544 rfl (lv_at hl 0 rfl) ?_
      refine lv_iload_n hx hb dL_law_545 rfl (lv_at hl 3 rfl) ?_
      refine lv_iconst (v := 1) hx hb dL_law_546 (by decide) ?_
      refine lv_iadd hx hb dL_law_547 ?_
      refine va_sld hx hb hX hbl hbA Z.2.2.2.2.2 hv1 dL_law_548 ?_
      refine call_2 (q := (RX11, TX11, 10)) (n := 1) (As := [.int (xs (x3 + 1).toNatClampNeg)]) (rv := some (.int r)) 0 11 F K E hA Z (show CT l yX11_world cX11_world 2 (some .int) 2 44 D cy ee (wC ad cy sC) (wC ad cy sC1) (.ref (ad 0) :: [.int (xs (x3 + 1).toNatClampNeg)]) (some (.int r)) from c_X11_world (n := n) (res := (r, sC1)) e1) ⟨wd1539, wd1540, wd1541, wd1542, wd1406⟩ (by decide +kernel) rfl rfl ⟨Nat.le_of_ble_eq_true rfl, Nat.le_of_ble_eq_true rfl⟩ ⟨Nat.le_of_ble_eq_true rfl, Nat.le_of_ble_eq_true rfl⟩ rfl hl.1 (Nat.le_of_ble_eq_true rfl) dL_law_549 (fun H locs Z => ?_)
      have Z := Z.swap
      refine lv_aload_n hx hb dL_law_552 rfl (lv_at hl 2 rfl) ?_
      refine lv_aload_n hx hb dL_law_553 rfl (lv_at hl 0 rfl) ?_
      refine lv_iload_n hx hb dL_law_554 rfl (lv_at hl 3 rfl) ?_
      refine lv_iconst (v := 1) hx hb dL_law_555 (by decide) ?_
      refine lv_iadd hx hb dL_law_556 ?_
      refine va_sld hx hb hX hbl hbA Z.2.2.2.2.2 hv1 dL_law_557 ?_
      refine call_2 (q := (RX12, TX12, 98)) (n := 1) (As := [.int (xs (x3 + 1).toNatClampNeg)]) (rv := some (.int r)) 0 12 F K E hA Z (show CT l yX12_world cX12_world 2 (some .int) 0 0 D cy ee (wM ad2 cy sM) (wM ad2 cy sM1) (.ref (ad2 0) :: [.int (xs (x3 + 1).toNatClampNeg)]) (some (.int r)) from c_X12_world (n := n) (res := (r, sM1)) e2) ⟨wd1543, wd1544, wd1545, wd1546, wd1008⟩ (by decide +kernel) rfl rfl ⟨Nat.le_of_ble_eq_true rfl, Nat.le_of_ble_eq_true rfl⟩ ⟨Nat.le_of_ble_eq_true rfl, Nat.le_of_ble_eq_true rfl⟩ rfl hl.1 (Nat.le_of_ble_eq_true rfl) dL_law_558 (fun H locs Z => ?_)
      have Z := Z.swap
      refine lv_icmp_eq (tgt := 675) hx hb dL_law_561 (by decide) (fun _ => ?_) (fun cx => absurd rfl cx)
      exact tail sC1 sM1 hI1 _ _ Z
    by_cases s18 : sel = 18
    · refine lv_tableIn (tgt := 566) hx hb dL_law_32 (by rw [s18] <;> decide) (by rw [s18] <;> decide) (by rw [s18] <;> rfl) (by decide) ?_
      obtain ⟨r, sC1, sM1, e1, e2, hI1⟩ := hs 18 0 (xs (x3 + 1).toNatClampNeg) (xs (x3 + 2).toNatClampNeg) (xs (x3 + 3).toNatClampNeg) sC sM (by decide) hI
      refine lv_aload_n hx hb dL_law_566 rfl (lv_at hl 1 rfl) ?_
      refine lv_aload_n hx hb dL_law_567 rfl (lv_at hl 0 rfl) ?_
      refine lv_iload_n hx hb dL_law_568 rfl (lv_at hl 3 rfl) ?_
      refine lv_iconst (v := 1) hx hb dL_law_569 (by decide) ?_
      refine lv_iadd hx hb dL_law_570 ?_
      refine va_sld hx hb hX hbl hbA Z.2.2.2.2.2 hv1 dL_law_571 ?_
      refine lv_aload_n hx hb dL_law_572 rfl (lv_at hl 0 rfl) ?_
      refine lv_iload_n hx hb dL_law_573 rfl (lv_at hl 3 rfl) ?_
      refine lv_iconst (v := 2) hx hb dL_law_574 (by decide) ?_
      refine lv_iadd hx hb dL_law_575 ?_
      refine va_sld hx hb hX hbl hbA Z.2.2.2.2.2 hv2 dL_law_576 ?_
      refine call_2 (q := (RX11, TX11, 10)) (n := 2) (As := [.int (xs (x3 + 1).toNatClampNeg), .int (xs (x3 + 2).toNatClampNeg)]) (rv := some (.int r)) 0 11 F K E hA Z (show CT l yX11_force cX11_force 3 (some .int) 3 71 D cy ee (wC ad cy sC) (wC ad cy sC1) (.ref (ad 0) :: [.int (xs (x3 + 1).toNatClampNeg), .int (xs (x3 + 2).toNatClampNeg)]) (some (.int r)) from c_X11_force (n := n) (res := (r, sC1)) e1) ⟨wd1547, wd1548, wd1549, wd1550, wd1406⟩ (by decide +kernel) rfl rfl ⟨Nat.le_of_ble_eq_true rfl, Nat.le_of_ble_eq_true rfl⟩ ⟨Nat.le_of_ble_eq_true rfl, Nat.le_of_ble_eq_true rfl⟩ rfl hl.1 (Nat.le_of_ble_eq_true rfl) dL_law_577 (fun H locs Z => ?_)
      have Z := Z.swap
      refine lv_aload_n hx hb dL_law_580 rfl (lv_at hl 2 rfl) ?_
      refine lv_aload_n hx hb dL_law_581 rfl (lv_at hl 0 rfl) ?_
      refine lv_iload_n hx hb dL_law_582 rfl (lv_at hl 3 rfl) ?_
      refine lv_iconst (v := 1) hx hb dL_law_583 (by decide) ?_
      refine lv_iadd hx hb dL_law_584 ?_
      refine va_sld hx hb hX hbl hbA Z.2.2.2.2.2 hv1 dL_law_585 ?_
      refine lv_aload_n hx hb dL_law_586 rfl (lv_at hl 0 rfl) ?_
      refine lv_iload_n hx hb dL_law_587 rfl (lv_at hl 3 rfl) ?_
      refine lv_iconst (v := 2) hx hb dL_law_588 (by decide) ?_
      refine lv_iadd hx hb dL_law_589 ?_
      refine va_sld hx hb hX hbl hbA Z.2.2.2.2.2 hv2 dL_law_590 ?_
      refine call_2 (q := (RX12, TX12, 98)) (n := 2) (As := [.int (xs (x3 + 1).toNatClampNeg), .int (xs (x3 + 2).toNatClampNeg)]) (rv := some (.int r)) 0 12 F K E hA Z (show CT l yX12_force cX12_force 5 (some .int) 1 23 D cy ee (wM ad2 cy sM) (wM ad2 cy sM1) (.ref (ad2 0) :: [.int (xs (x3 + 1).toNatClampNeg), .int (xs (x3 + 2).toNatClampNeg)]) (some (.int r)) from c_X12_force (n := n) (res := (r, sM1)) e2) ⟨wd1551, wd1552, wd1553, wd1554, wd1008⟩ (by decide +kernel) rfl rfl ⟨Nat.le_of_ble_eq_true rfl, Nat.le_of_ble_eq_true rfl⟩ ⟨Nat.le_of_ble_eq_true rfl, Nat.le_of_ble_eq_true rfl⟩ rfl hl.1 (Nat.le_of_ble_eq_true rfl) dL_law_591 (fun H locs Z => ?_)
      have Z := Z.swap
      refine lv_icmp_eq (tgt := 675) hx hb dL_law_594 (by decide) (fun _ => ?_) (fun cx => absurd rfl cx)
      exact tail sC1 sM1 hI1 _ _ Z
    by_cases s19 : sel = 19
    · refine lv_tableIn (tgt := 599) hx hb dL_law_32 (by rw [s19] <;> decide) (by rw [s19] <;> decide) (by rw [s19] <;> rfl) (by decide) ?_
      obtain ⟨r, sC1, sM1, e1, e2, hI1⟩ := hs 19 0 (xs (x3 + 1).toNatClampNeg) (xs (x3 + 2).toNatClampNeg) (xs (x3 + 3).toNatClampNeg) sC sM (by decide) hI
      refine lv_aload_n hx hb dL_law_599 rfl (lv_at hl 1 rfl) ?_
      refine lv_aload_n hx hb dL_law_600 rfl (lv_at hl 0 rfl) ?_
      refine lv_iload_n hx hb dL_law_601 rfl (lv_at hl 3 rfl) ?_
      refine lv_iconst (v := 1) hx hb dL_law_602 (by decide) ?_
      refine lv_iadd hx hb dL_law_603 ?_
      refine va_sld hx hb hX hbl hbA Z.2.2.2.2.2 hv1 dL_law_604 ?_
      refine lv_aload_n hx hb dL_law_605 rfl (lv_at hl 0 rfl) ?_
      refine lv_iload_n hx hb dL_law_606 rfl (lv_at hl 3 rfl) ?_
      refine lv_iconst (v := 2) hx hb dL_law_607 (by decide) ?_
      refine lv_iadd hx hb dL_law_608 ?_
      refine va_sld hx hb hX hbl hbA Z.2.2.2.2.2 hv2 dL_law_609 ?_
      refine lv_aload_n hx hb dL_law_610 rfl (lv_at hl 0 rfl) ?_
      refine lv_iload_n hx hb dL_law_611 rfl (lv_at hl 3 rfl) ?_
      refine lv_iconst (v := 3) hx hb dL_law_612 (by decide) ?_
      refine lv_iadd hx hb dL_law_613 ?_
      refine va_sld hx hb hX hbl hbA Z.2.2.2.2.2 hv3 dL_law_614 ?_
      refine call_2 (q := (RX11, TX11, 10)) (n := 3) (As := [.int (xs (x3 + 1).toNatClampNeg), .int (xs (x3 + 2).toNatClampNeg), .int (xs (x3 + 3).toNatClampNeg)]) (rv := some (.int r)) 0 11 F K E hA Z (show CT l yX11_about cX11_about 4 (some .int) 2 45 D cy ee (wC ad cy sC) (wC ad cy sC1) (.ref (ad 0) :: [.int (xs (x3 + 1).toNatClampNeg), .int (xs (x3 + 2).toNatClampNeg), .int (xs (x3 + 3).toNatClampNeg)]) (some (.int r)) from c_X11_about (n := n) (res := (r, sC1)) e1) ⟨wd1555, wd1556, wd1557, wd1558, wd1406⟩ (by decide +kernel) rfl rfl ⟨Nat.le_of_ble_eq_true rfl, Nat.le_of_ble_eq_true rfl⟩ ⟨Nat.le_of_ble_eq_true rfl, Nat.le_of_ble_eq_true rfl⟩ rfl hl.1 (Nat.le_of_ble_eq_true rfl) dL_law_615 (fun H locs Z => ?_)
      have Z := Z.swap
      refine lv_aload_n hx hb dL_law_618 rfl (lv_at hl 2 rfl) ?_
      refine lv_aload_n hx hb dL_law_619 rfl (lv_at hl 0 rfl) ?_
      refine lv_iload_n hx hb dL_law_620 rfl (lv_at hl 3 rfl) ?_
      refine lv_iconst (v := 1) hx hb dL_law_621 (by decide) ?_
      refine lv_iadd hx hb dL_law_622 ?_
      refine va_sld hx hb hX hbl hbA Z.2.2.2.2.2 hv1 dL_law_623 ?_
      refine lv_aload_n hx hb dL_law_624 rfl (lv_at hl 0 rfl) ?_
      refine lv_iload_n hx hb dL_law_625 rfl (lv_at hl 3 rfl) ?_
      refine lv_iconst (v := 2) hx hb dL_law_626 (by decide) ?_
      refine lv_iadd hx hb dL_law_627 ?_
      refine va_sld hx hb hX hbl hbA Z.2.2.2.2.2 hv2 dL_law_628 ?_
      refine lv_aload_n hx hb dL_law_629 rfl (lv_at hl 0 rfl) ?_
      refine lv_iload_n hx hb dL_law_630 rfl (lv_at hl 3 rfl) ?_
      refine lv_iconst (v := 3) hx hb dL_law_631 (by decide) ?_
      refine lv_iadd hx hb dL_law_632 ?_
      refine va_sld hx hb hX hbl hbA Z.2.2.2.2.2 hv3 dL_law_633 ?_
      refine call_2 (q := (RX12, TX12, 98)) (n := 3) (As := [.int (xs (x3 + 1).toNatClampNeg), .int (xs (x3 + 2).toNatClampNeg), .int (xs (x3 + 3).toNatClampNeg)]) (rv := some (.int r)) 0 12 F K E hA Z (show CT l yX12_about cX12_about 6 (some .int) 1 23 D cy ee (wM ad2 cy sM) (wM ad2 cy sM1) (.ref (ad2 0) :: [.int (xs (x3 + 1).toNatClampNeg), .int (xs (x3 + 2).toNatClampNeg), .int (xs (x3 + 3).toNatClampNeg)]) (some (.int r)) from c_X12_about (n := n) (res := (r, sM1)) e2) ⟨wd1559, wd1560, wd1561, wd1562, wd1008⟩ (by decide +kernel) rfl rfl ⟨Nat.le_of_ble_eq_true rfl, Nat.le_of_ble_eq_true rfl⟩ ⟨Nat.le_of_ble_eq_true rfl, Nat.le_of_ble_eq_true rfl⟩ rfl hl.1 (Nat.le_of_ble_eq_true rfl) dL_law_634 (fun H locs Z => ?_)
      have Z := Z.swap
      refine lv_icmp_eq (tgt := 675) hx hb dL_law_637 (by decide) (fun _ => ?_) (fun cx => absurd rfl cx)
      exact tail sC1 sM1 hI1 _ _ Z
    by_cases s20 : sel = 20
    · refine lv_tableIn (tgt := 642) hx hb dL_law_32 (by rw [s20] <;> decide) (by rw [s20] <;> decide) (by rw [s20] <;> rfl) (by decide) ?_
      obtain ⟨r, sC1, sM1, e1, e2, hI1⟩ := hs 20 0 (xs (x3 + 1).toNatClampNeg) (xs (x3 + 2).toNatClampNeg) (xs (x3 + 3).toNatClampNeg) sC sM (by decide) hI
      refine lv_aload_n hx hb dL_law_642 rfl (lv_at hl 1 rfl) ?_
      refine lv_aload_n hx hb dL_law_643 rfl (lv_at hl 0 rfl) ?_
      refine lv_iload_n hx hb dL_law_644 rfl (lv_at hl 3 rfl) ?_
      refine lv_iconst (v := 1) hx hb dL_law_645 (by decide) ?_
      refine lv_iadd hx hb dL_law_646 ?_
      refine va_sld hx hb hX hbl hbA Z.2.2.2.2.2 hv1 dL_law_647 ?_
      refine lv_aload_n hx hb dL_law_648 rfl (lv_at hl 0 rfl) ?_
      refine lv_iload_n hx hb dL_law_649 rfl (lv_at hl 3 rfl) ?_
      refine lv_iconst (v := 2) hx hb dL_law_650 (by decide) ?_
      refine lv_iadd hx hb dL_law_651 ?_
      refine va_sld hx hb hX hbl hbA Z.2.2.2.2.2 hv2 dL_law_652 ?_
      refine call_2 (q := (RX11, TX11, 10)) (n := 2) (As := [.int (xs (x3 + 1).toNatClampNeg), .int (xs (x3 + 2).toNatClampNeg)]) (rv := some (.int r)) 0 11 F K E hA Z (show CT l yX11_holds cX11_holds 3 (some .int) 5 112 D cy ee (wC ad cy sC) (wC ad cy sC1) (.ref (ad 0) :: [.int (xs (x3 + 1).toNatClampNeg), .int (xs (x3 + 2).toNatClampNeg)]) (some (.int r)) from c_X11_holds (n := n) (res := (r, sC1)) e1) ⟨wd1563, wd1564, wd1565, wd1566, wd1406⟩ (by decide +kernel) rfl rfl ⟨Nat.le_of_ble_eq_true rfl, Nat.le_of_ble_eq_true rfl⟩ ⟨Nat.le_of_ble_eq_true rfl, Nat.le_of_ble_eq_true rfl⟩ rfl hl.1 (Nat.le_of_ble_eq_true rfl) dL_law_653 (fun H locs Z => ?_)
      have Z := Z.swap
      refine lv_aload_n hx hb dL_law_656 rfl (lv_at hl 2 rfl) ?_
      refine lv_aload_n hx hb dL_law_657 rfl (lv_at hl 0 rfl) ?_
      refine lv_iload_n hx hb dL_law_658 rfl (lv_at hl 3 rfl) ?_
      refine lv_iconst (v := 1) hx hb dL_law_659 (by decide) ?_
      refine lv_iadd hx hb dL_law_660 ?_
      refine va_sld hx hb hX hbl hbA Z.2.2.2.2.2 hv1 dL_law_661 ?_
      refine lv_aload_n hx hb dL_law_662 rfl (lv_at hl 0 rfl) ?_
      refine lv_iload_n hx hb dL_law_663 rfl (lv_at hl 3 rfl) ?_
      refine lv_iconst (v := 2) hx hb dL_law_664 (by decide) ?_
      refine lv_iadd hx hb dL_law_665 ?_
      refine va_sld hx hb hX hbl hbA Z.2.2.2.2.2 hv2 dL_law_666 ?_
      refine call_2 (q := (RX12, TX12, 98)) (n := 2) (As := [.int (xs (x3 + 1).toNatClampNeg), .int (xs (x3 + 2).toNatClampNeg)]) (rv := some (.int r)) 0 12 F K E hA Z (show CT l yX12_holds cX12_holds 7 (some .int) 1 30 D cy ee (wM ad2 cy sM) (wM ad2 cy sM1) (.ref (ad2 0) :: [.int (xs (x3 + 1).toNatClampNeg), .int (xs (x3 + 2).toNatClampNeg)]) (some (.int r)) from c_X12_holds (n := n) (res := (r, sM1)) e2) ⟨wd1567, wd1568, wd1569, wd1570, wd1008⟩ (by decide +kernel) rfl rfl ⟨Nat.le_of_ble_eq_true rfl, Nat.le_of_ble_eq_true rfl⟩ ⟨Nat.le_of_ble_eq_true rfl, Nat.le_of_ble_eq_true rfl⟩ rfl hl.1 (Nat.le_of_ble_eq_true rfl) dL_law_667 (fun H locs Z => ?_)
      have Z := Z.swap
      refine lv_icmp_eq (tgt := 675) hx hb dL_law_670 (by decide) (fun _ => ?_) (fun cx => absurd rfl cx)
      exact tail sC1 sM1 hI1 _ _ Z
    refine lv_tableOut (tgt := 675) hx hb dL_law_32 (sw_out (by decide) trivial (fun j h1 h2 => ?_)) (by decide) (tail sC sM hI _ _ Z)
    rcases (show j = 0 ∨ j = 1 ∨ j = 2 ∨ j = 3 ∨ j = 4 ∨ j = 5 ∨ j = 6 ∨ j = 7 ∨ j = 8 ∨ j = 9 ∨ j = 10 ∨ j = 11 ∨ j = 12 ∨ j = 13 ∨ j = 14 ∨ j = 15 ∨ j = 16 ∨ j = 17 ∨ j = 18 ∨ j = 19 ∨ j = 20 by omega) with rfl | rfl | rfl | rfl | rfl | rfl | rfl | rfl | rfl | rfl | rfl | rfl | rfl | rfl | rfl | rfl | rfl | rfl | rfl | rfl | rfl
    · exact lv_neT s0 (by decide)
    · exact lv_neT s1 (by decide)
    · exact lv_neT s2 (by decide)
    · exact lv_neT s3 (by decide)
    · exact lv_neT s4 (by decide)
    · exact lv_neT s5 (by decide)
    · exact lv_neT s6 (by decide)
    · exact lv_neT s7 (by decide)
    · exact lv_neT s8 (by decide)
    · exact lv_neT s9 (by decide)
    · exact lv_neT s10 (by decide)
    · exact lv_neT s11 (by decide)
    · exact lv_neT s12 (by decide)
    · exact lv_neT s13 (by decide)
    · exact lv_neT s14 (by decide)
    · exact lv_neT s15 (by decide)
    · exact lv_neT s16 (by decide)
    · exact lv_neT s17 (by decide)
    · exact lv_neT s18 (by decide)
    · exact lv_neT s19 (by decide)
    · exact lv_neT s20 (by decide)
theorem Z2_of {D : va_G} {wa wb : va_W} {A : Nat → Prop} {s : State} {H : Heap} {locs : List Loc} (hP : va_P D vwCl (wa ++ wb) H) (hD : va_D A (wa ++ wb)) (hS : va_S A s.heap H locs) : Z2 D wa wb A s H locs := by
  have inl : ∀ (k : Nat) (x : Nat × va_E), wa[k]? = some x → (wa ++ wb)[k]? = some x := fun k x h => by
    rw [List.getElem?_append_left (List.getElem?_eq_some_iff.mp h).1]; exact h
  have inr : ∀ (k : Nat) (x : Nat × va_E), wb[k]? = some x → (wa ++ wb)[wa.length + k]? = some x := fun k x h => by
    rw [List.getElem?_append_right (by omega), Nat.add_sub_cancel_left]; exact h
  refine ⟨fun k x h => hP k x (inl k x h), fun k x h => hP _ x (inr k x h), ⟨fun i j x y hi hj h => hD.1 i j x y (inl i x hi) (inl j y hj) h, fun k x h => hD.2 k x (inl k x h)⟩, ⟨fun i j x y hi hj h => by have := hD.1 _ _ x y (inr i x hi) (inr j y hj) h; omega, fun k x h => hD.2 _ x (inr k x h)⟩, fun i j x y hi hj h => ?_, hS⟩
  have h1 := hD.1 i _ x y (inl i x hi) (inr j y hj) h
  have h2 := (List.getElem?_eq_some_iff.mp hi).1
  omega
theorem law_code : cL_law = code := rfl
set_option maxRecDepth 100000 in
set_option maxHeartbeats 40000000 in
/-- OPEN: over a relation that every call keeps -/
theorem whole_start_open {n : Nat} {I : StT → StT → Prop} (hs : Sim n I) (hI : I stC0 stM0) {p : Program} {e : Env} {s : State} {m : MethodId} {below : List Frame} {meth : Method} {c : Code} (l : Launch) {b L : Nat} {xs : Nat → Int32} (hL : L ≤ 2048) (C0 : lw_At p s m meth c b L xs) : W p l e room_1 s m #[Value.ref b] below meth c s.heap [] 0 0 (lw_Z below #[Value.ref b] s) (entryFrame m ([Value.ref b] : List Value).toArray 4) := by
  obtain ⟨hx, hb, hr, hml, hown, hts, hX, hbl, hlocks, hgv⟩ := id C0
  have hA : ∀ q : Nat, s.heap.size ≤ q → (fun q : Nat => s.heap.size ≤ q) q := fun _ h => h
  have F : CallFix p m c code 4 s #[Value.ref b] (Cond.initialized "WorldProver" :: Gw) RL := ⟨hx, hb, hml, hown, fun w h => (List.mem_cons.mp h).elim (fun h => by rw [h]; exact hts _ (List.mem_append_right _ (List.mem_append_left _ (List.mem_of_getElem? (i := 1) rfl)))) (fun h => hts w (gw_in w h))⟩
  obtain ⟨ee, E⟩ := ev_start hts hgv
  have I' := ei_start hts
  obtain ⟨D, cy, K⟩ := k_start hts
  have hS : va_S (fun q : Nat => s.heap.size ≤ q) s.heap s.heap [] := va_S.rf
  have hP : va_P D vwCl [] s.heap := fun k q h => by simp at h
  have hD : va_D (fun q : Nat => s.heap.size ≤ q) [] := ⟨fun i j p q h => by simp at h, fun k q h => by simp at h⟩
  have hl := lv_entry ([.ref b]) (n := 4) (Nat.le_of_ble_eq_true rfl)
  rw [lg_entry_eq]
  generalize (lg_sl ([.ref b]) ++ List.replicate (4 - (lg_sl ([.ref b])).length) Slot.unset).toArray = ls at hl ⊢
  have hl : lv_has ls 4 [(0, .ref b)] := hl
  refine va_new (ci := 11) (fs := [.null, .null, .null, .null, .null, .null, .null, .null, .null, .int 0]) (C := RX11) (T := TX11) (N := 10) hx hb F.2.2.2.2 (fun w h => List.mem_cons_of_mem _ (inG_X11 w h)) tyX11 tyX11_ok hown (hts _ (List.mem_append_right _ (List.mem_append_left _ (List.mem_of_getElem? (i := 22) rfl)))) (hts _ (List.mem_append_right _ (List.mem_append_left _ (List.mem_of_getElem? (i := 23) rfl)))) (hts _ (List.mem_append_right _ (List.mem_append_left _ (List.mem_of_getElem? (i := 1) rfl)))) K hP hD hS hA rfl (by decide +kernel) (Nat.le_of_ble_eq_true rfl) (Nat.le_of_ble_eq_true rfl) dL_law_0 (fun q1 H hP hD hS => ?_)
  refine lv_dup hx hb dL_law_3 rfl ?_
  refine call_I (n := 0) (As := []) (wl := []) F K E I' hA hP hD hS (i_W (l := l) (D := D) (cy := cy) (ee := ee)) ⟨wd1571, wd1406, wd1572, wd1573⟩ rfl (by decide +kernel) ⟨Nat.le_of_ble_eq_true rfl, Nat.le_of_ble_eq_true rfl⟩ rfl hl.1 (Nat.le_of_ble_eq_true rfl) dL_law_4 ⟨Nat.le_of_ble_eq_true rfl, Nat.le_of_ble_eq_true rfl⟩ (fun u1 H locs hu1 gP gD gS => ?_)
  have gP : va_P D vwCl (wC u1 cy stC0) H := gP
  have gD : va_D (fun q : Nat => s.heap.size ≤ q) (wC u1 cy stC0) := gD
  refine lv_astore_n (lv' := [(1, .ref q1), (0, .ref b)]) hx hb dL_law_7 rfl hl (by decide) rfl (fun ls hl => ?_)
  clear hP hD hS
  have hP := gP
  have hD := gD
  have hS := gS
  refine va_new (ci := 12) (fs := [.null, .null, .null, .int 0, .int 0, .null, .null, .null, .int 0, .null, .int 0, .int 0, .int 0, .int 0, .int 0, .int 0, .int 0, .int 0, .int 0, .int 0, .int 0, .null, .int 0, .null, .int 0, .null, .int 0, .null, .null, .null, .null, .int 0, .null, .null, .null, .null, .null, .int 0, .null, .null, .null, .null, .null, .null, .null, .null, .null, .null, .int 0, .int 0, .int 0, .int 0, .int 0, .int 0, .int 0, .int 0, .int 0, .int 0, .int 0, .null, .null, .null, .null, .int 0, .null, .null, .null, .null, .int 0, .null, .null, .null, .int 0, .int 0, .null, .null, .null, .null, .null, .int 0, .null, .null, .null, .null, .null, .null, .null, .null, .int 0, .null, .null, .int 0, .null, .null, .null, .null, .null, .null]) (C := RX12) (T := TX12) (N := 98) hx hb F.2.2.2.2 (fun w h => List.mem_cons_of_mem _ (inG_X12 w h)) tyX12 tyX12_ok hown (hts _ (List.mem_append_right _ (List.mem_append_right _ (List.mem_append_right _ (List.mem_append_right _ (List.mem_append_right _ (List.mem_append_right _ (List.mem_append_left _ (List.mem_of_getElem? (i := 51) rfl))))))))) (hts _ (List.mem_append_right _ (List.mem_append_right _ (List.mem_append_right _ (List.mem_append_right _ (List.mem_append_right _ (List.mem_append_right _ (List.mem_append_left _ (List.mem_of_getElem? (i := 52) rfl))))))))) (hts _ (List.mem_append_right _ (List.mem_append_left _ (List.mem_of_getElem? (i := 14) rfl)))) K hP hD hS hA rfl (by decide +kernel) (Nat.le_of_ble_eq_true rfl) (Nat.le_of_ble_eq_true rfl) dL_law_8 (fun q2 H hP hD hS => ?_)
  refine lv_dup hx hb dL_law_11 rfl ?_
  refine call_I (n := 0) (As := []) (wl := (wC u1 cy stC0)) F K E I' hA hP hD hS (i_M (l := l) (D := D) (cy := cy) (ee := ee)) ⟨wd1574, wd1008, wd1575, wd1576⟩ rfl (by decide +kernel) ⟨Nat.le_of_ble_eq_true rfl, Nat.le_of_ble_eq_true rfl⟩ rfl hl.1 (Nat.le_of_ble_eq_true rfl) dL_law_12 ⟨Nat.le_of_ble_eq_true rfl, Nat.le_of_ble_eq_true rfl⟩ (fun u2 H locs hu2 gP gD gS => ?_)
  have gP : va_P D vwCl ((wC u1 cy stC0) ++ (wM u2 cy stM0)) H := gP
  have gD : va_D (fun q : Nat => s.heap.size ≤ q) ((wC u1 cy stC0) ++ (wM u2 cy stM0)) := gD
  refine lv_astore_n (lv' := [(2, .ref q2), (1, .ref q1), (0, .ref b)]) hx hb dL_law_15 rfl hl (by decide) rfl (fun ls hl => ?_)
  refine lv_iconst (v := 0) hx hb dL_law_16 (by decide) ?_
  refine lv_istore_n (lv' := [(3, .int 0), (2, .ref q2), (1, .ref q1), (0, .ref b)]) hx hb dL_law_17 rfl hl (by decide) rfl (fun ls hl => ?_)
  have Z := Z2_of gP gD gS
  refine W.widen (k := 125) (n := 961885) (Nat.le_of_ble_eq_true rfl) (Nat.le_of_ble_eq_true rfl) ?_
  rw [← hu1, ← hu2] at hl
  exact law_loop hL C0 K E hs (L + 1) 0 0 (Nat.zero_le L) (by omega) nI_0.symm u1 u2 stC0 stM0 hI _ _ Z ls (lv_sub hl [3, 2, 1, 0] rfl)
