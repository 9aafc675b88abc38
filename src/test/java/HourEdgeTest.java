/** The boundary sentences of "The tide, mills" and of "An hour". */
public final class HourEdgeTest {
    private static final Edge edge = new Edge("HourEdgeTest");

    private HourEdgeTest() {
    }

    public static void main(String[] args) {
        tideGoesRoundInTwelveHours();
        tideByTheLeastAndTheMostOfItsSetting();
        headIsRoundedDownAlsoBelowZero();
        headAtItsEnds();
        hourIsOneMoreAheadOfTheTide();
        gateIsOpenFromItsFirstHour();
        gateIsOpenToItsLastHour();
        gateOfOneHour();
        gateHoursGoRound();
        sillMustBeBelowTheTide();
        leastAndGreatestSill();
        pondGetsButWhatItHasRoomFor();
        pondKeepsItsWater();
        reasonOne();
        reasonTwo();
        reasonThree();
        firstReasonThatApplies();
        waterOfTheHourCounts();
        earliestDueTurns();
        greatestHeadTurns();
        lowestTurns();
        onlyMillsThatCanTurnAreCompared();
        othersRest();
        millUsesItsLastWater();
        headAheadOfTheUse();
        turnsAreRoundedDown();
        noTurns();
        turnsAndTheFirstRest();
        turnsGoOnWithTheNextSack();
        allSixSacksInAnHour();
        whatIsLeftIsLost();
        late();
        idle();
        edge.end();
    }

    /** Behind the hour 1 mill 0 has the first water, mill 1 the second, of 100; no more comes. The waters are even. */
    private static void water(TideMills mills, int... waters) {
        for (int mill = 0; mill < 5; mill++) {
            mills.gate(mill, 6, 6);
        }
        for (int mill = 0; mill < waters.length; mill++) {
            mills.gate(mill, 1, 1);
            mills.pond(mill, 100, 50 - waters[mill] / 2);
        }
        mills.pass(1);
        for (int mill = 0; mill < waters.length; mill++) {
            mills.gate(mill, 6, 6);
        }
    }

    /** In the hour 1; the stone turns 240 times in the hour 2. */
    private static TideMills fullMill(int... hardnesses) {
        TideMills mills = Edge.made(m -> water(m, 100));
        for (int hardness : hardnesses) {
            mills.sack(0, hardness, 50);
        }
        return mills;
    }

    private static int waterBehind(int hours, Edge.Setup setup) {
        TideMills mills = Edge.made(setup);
        mills.pass(hours);
        return mills.mill(0, 1);
    }

    private static void tideGoesRoundInTwelveHours() {
        int[] hours = {0, 1, 5, 6, 7, 11, 12, 13, 17, 18, 19, 23, 24, Integer.MAX_VALUE};
        int[] tides = {60, 50, 10, 0, 10, 50, 60, 50, 10, 0, 10, 50, 60, 10};
        for (int at = 0; at < hours.length; at++) {
            int hour = hours[at];
            edge.answers("tide in the hour " + hour, tides[at], Edge.NEW, m -> m.tide(hour));
        }
    }

    private static void tideByTheLeastAndTheMostOfItsSetting() {
        edge.answers("setting 0 at its least, high tide", 6, m -> m.set(0, 1), m -> m.tide(0));
        edge.answers("setting 0 at its least, low tide", 0, m -> m.set(0, 1), m -> m.tide(6));
        edge.answers("setting 0 at its most, high tide", 90, m -> m.set(0, 15), m -> m.tide(12));
        edge.answers("setting 0 at its most, low tide", 0, m -> m.set(0, 15), m -> m.tide(18));
    }

    private static void headIsRoundedDownAlsoBelowZero() {
        Edge.Setup hundredOfThreeHundred = m -> {
            m.pond(0, 300, 0);
            m.pass(1);
        };
        edge.answers("33.33 less 50 is -17, rounded down", 983, hundredOfThreeHundred, m -> m.mill(0, 8));
        edge.answers("33.33 less 30 is 3, rounded down", 1003, m -> {
            m.pond(0, 300, 0);
            m.gate(0, 1, 1);
            m.pass(3);
        }, m -> m.mill(0, 8));
        edge.answers("98.99 less 50 is 48", 1048, m -> {
            water(m, 98);
            m.pond(0, 99, 20);
        }, m -> m.mill(0, 8));
    }

    private static void headAtItsEnds() {
        edge.answers("the least head, an empty pond at the highest tide", 910, m -> m.set(0, 15), m -> m.mill(0, 8));
        edge.answers("the greatest head, a full pond at the lowest tide", 1100, m -> m.pass(18), m -> m.mill(0, 8));
        edge.answers("a head of 0", 1000, m -> water(m, 50), m -> m.mill(0, 8));
        edge.answers("an empty pond at the lowest tide", 1000, m -> {
            m.pond(0, 200, 60);
            m.pass(6);
        }, m -> m.mill(0, 8));
    }

    private static void hourIsOneMoreAheadOfTheTide() {
        edge.due("water by the tide of the hour 1, not 0", 60, waterBehind(1, Edge.NEW));
        edge.due("water by the tide of the hour 12", 80, waterBehind(12, m -> m.gate(0, 0, 0)));
    }

    private static void gateIsOpenFromItsFirstHour() {
        Edge.Setup fromTwo = m -> {
            m.pond(0, 500, 0);
            m.gate(0, 2, 11);
        };
        edge.due("shut in the hour before the first", 0, waterBehind(1, fromTwo));
        edge.due("open in the first", 80, waterBehind(2, fromTwo));
    }

    private static void gateIsOpenToItsLastHour() {
        Edge.Setup toTwo = m -> {
            m.pond(0, 500, 0);
            m.gate(0, 0, 2);
        };
        edge.due("open in the last hour", 180, waterBehind(2, toTwo));
        edge.due("shut in the hour behind the last", 180, waterBehind(3, toTwo));
        edge.due("and up to the hour 11", 180, waterBehind(11, toTwo));
        edge.due("open again in the hour 12", 300, waterBehind(12, toTwo));
    }

    private static void gateOfOneHour() {
        Edge.Setup three = m -> {
            m.pond(0, 500, 0);
            m.gate(0, 3, 3);
        };
        edge.due("shut before its hour", 0, waterBehind(2, three));
        edge.due("open in its hour", 60, waterBehind(3, three));
        edge.due("shut behind its hour", 60, waterBehind(4, three));
    }

    private static void gateHoursGoRound() {
        Edge.Setup zero = m -> m.gate(0, 0, 0);
        edge.due("the hour 0 does not pass", 0, waterBehind(11, zero));
        edge.due("the hour 12 is 0", 80, waterBehind(12, zero));
        edge.due("the hour 13 is not", 80, waterBehind(13, zero));
        edge.due("the hour 24 is 0", 160, waterBehind(24, zero));
        Edge.Setup eleven = m -> m.gate(0, 11, 11);
        edge.due("before the hour 11", 0, waterBehind(10, eleven));
        edge.due("in the hour 11", 60, waterBehind(11, eleven));
        edge.due("behind the hour 11", 60, waterBehind(22, eleven));
        edge.due("the hour 23 is 11", 120, waterBehind(23, eleven));
    }

    private static void sillMustBeBelowTheTide() {
        edge.due("the tide as high as the sill", 0, waterBehind(1, m -> m.pond(0, 200, 50)));
        edge.due("the tide one higher", 2, waterBehind(1, m -> m.pond(0, 200, 49)));
        edge.due("the tide one lower", 0, waterBehind(1, m -> m.pond(0, 200, 51)));
    }

    private static void leastAndGreatestSill() {
        edge.due("a sill of 0 at a tide of 0", 0, waterBehind(6, m -> {
            m.pond(0, 200, 0);
            m.gate(0, 6, 6);
        }));
        edge.due("a sill of 0 at a tide of 1", 2, waterBehind(5, m -> {
            m.set(0, 1);
            m.pond(0, 200, 0);
            m.gate(0, 5, 5);
        }));
        edge.due("a sill of 60 at a tide of 60", 0, waterBehind(12, m -> m.pond(0, 200, 60)));
        edge.due("a sill of 60 at a tide of 66", 12, waterBehind(12, m -> {
            m.set(0, 11);
            m.pond(0, 200, 60);
        }));
    }

    private static void pondGetsButWhatItHasRoomFor() {
        edge.due("room for one more", 100, waterBehind(1, m -> m.pond(0, 101, 0)));
        edge.due("room for as much", 100, waterBehind(1, m -> m.pond(0, 100, 0)));
        edge.due("room for one less", 99, waterBehind(1, m -> m.pond(0, 99, 0)));
        edge.due("the least pond", 50, waterBehind(1, m -> m.pond(0, 50, 0)));
        edge.due("a full pond", 100, waterBehind(2, m -> m.pond(0, 100, 0)));
        edge.due("a pond that is filled up", 130, waterBehind(2, m -> m.pond(0, 130, 0)));
        Edge.Setup aloneOpen = m -> {
            for (int mill = 1; mill < 5; mill++) {
                m.gate(mill, 6, 6);
            }
            m.pond(0, 99, 0);
            m.pass(2);
        };
        edge.answers("what it has no room for does not come", 99, aloneOpen, m -> m.count(3));
    }

    private static void pondKeepsItsWater() {
        edge.due("the tide falls below the sill", 60, waterBehind(6, m -> {
            m.pond(0, 200, 20);
            m.gate(0, 1, 1);
        }));
        edge.due("the gate is open and the tide below the water", 60, waterBehind(9, m -> m.pond(0, 60, 20)));
    }

    private static void reasonOne() {
        edge.answers("no sacks", 1, m -> water(m, 100), m -> m.whyNot(0));
        edge.answers("one sack", 0, m -> {
            water(m, 100);
            m.sack(0, 1, 1);
        }, m -> m.whyNot(0));
    }

    private static void reasonTwo() {
        Edge.Setup headOfFifty = m -> {
            water(m, 100);
            m.sack(0, 1, 1);
        };
        edge.answers("a head above the least one", 0, headOfFifty, m -> whyNotWith(m, 1, 49));
        edge.answers("a head as high as the least one", 0, headOfFifty, m -> whyNotWith(m, 1, 50));
        edge.answers("a head one below the least one", 2, headOfFifty, m -> whyNotWith(m, 1, 51));
        Edge.Setup headOfZero = m -> {
            m.set(1, 0);
            water(m, 50);
            m.sack(0, 1, 1);
        };
        edge.answers("a head of 0 and the least one 0", 0, headOfZero, m -> m.whyNot(0));
        edge.answers("a head of -1 and the least one 0", 2, m -> {
            headOfZero.make(m);
            m.pond(0, 102, 20);
        }, m -> m.whyNot(0));
        Edge.Setup fullAtLowTide = m -> {
            m.pass(18);
            m.sack(0, 1, 1);
            m.set(1, 100);
        };
        edge.answers("a head of 100 and the least one 100", 0, fullAtLowTide, m -> m.whyNot(0));
        edge.answers("a head of 99 and the least one 100", 2, m -> {
            fullAtLowTide.make(m);
            m.pond(0, 201, 20);
        }, m -> m.whyNot(0));
    }

    private static void reasonThree() {
        Edge.Setup waterOfHundred = m -> {
            water(m, 100);
            m.sack(0, 1, 1);
        };
        edge.answers("as much water as it uses", 0, waterOfHundred, m -> whyNotWith(m, 2, 100));
        Edge.Setup waterOfNinetyEight = m -> {
            water(m, 98);
            m.sack(0, 1, 1);
        };
        edge.answers("as much water as it uses", 0, waterOfNinetyEight, m -> whyNotWith(m, 2, 98));
        edge.answers("one less than it uses", 3, waterOfNinetyEight, m -> whyNotWith(m, 2, 99));
        edge.answers("one more than it uses", 0, waterOfNinetyEight, m -> whyNotWith(m, 2, 97));
    }

    private static void firstReasonThatApplies() {
        edge.answers("1 ahead of 2 and 3", 1, Edge.NEW, m -> m.whyNot(0));
        edge.answers("2 ahead of 3", 2, m -> m.sack(0, 1, 1), m -> m.whyNot(0));
        edge.answers("1 ahead of 3", 1, m -> {
            water(m, 98);
            m.set(2, 99);
        }, m -> m.whyNot(0));
        edge.answers("3 alone", 3, m -> {
            water(m, 98);
            m.set(2, 99);
            m.sack(0, 1, 1);
        }, m -> m.whyNot(0));
    }

    private static int whyNotWith(TideMills mills, int setting, int value) {
        mills.set(setting, value);
        return mills.whyNot(0);
    }

    private static void waterOfTheHourCounts() {
        edge.answers("water comes ahead of the turning", 0, m -> {
            m.set(1, 0);
            m.pond(0, 100, 0);
            m.sack(0, 1, 9);
            m.pass(1);
        }, m -> m.count(1));
    }

    private static int turnedWith(Edge.Setup setup) {
        TideMills mills = Edge.made(setup);
        mills.pass(1);
        return mills.count(1);
    }

    private static void earliestDueTurns() {
        edge.due("due one hour earlier, with a lower head", 1, turnedWith(m -> {
            water(m, 100, 90);
            m.sack(0, 999, 8);
            m.sack(1, 999, 7);
        }));
        edge.due("by the first sack, not by others", 0, turnedWith(m -> {
            water(m, 100, 100);
            m.sack(0, 999, 7);
            m.sack(0, 999, 9999);
            m.sack(1, 999, 8);
            m.sack(1, 999, 8);
        }));
        edge.due("due at the ends", 4, turnedWith(m -> {
            water(m, 100, 100, 100, 100, 100);
            for (int mill = 0; mill < 4; mill++) {
                m.sack(mill, 999, 9999);
            }
            m.sack(4, 999, 1);
        }));
    }

    private static void greatestHeadTurns() {
        edge.due("due in the same hour, the greater head", 1, turnedWith(m -> {
            water(m, 98, 100);
            m.sack(0, 999, 8);
            m.sack(1, 999, 8);
        }));
        edge.due("the head, not the water", 0, turnedWith(m -> {
            water(m, 98, 98);
            m.pond(1, 99, 0);
            m.pond(0, 98, 0);
            m.sack(1, 999, 8);
            m.sack(0, 999, 8);
        }));
    }

    private static void lowestTurns() {
        edge.due("the same hour and the same head", 0, turnedWith(m -> {
            water(m, 100, 100, 100, 100, 100);
            for (int mill = 4; mill >= 0; mill--) {
                m.sack(mill, 999, 8);
            }
        }));
        edge.due("the lowest of those, not of all", 3, turnedWith(m -> {
            water(m, 98, 98, 98, 100, 100);
            for (int mill = 4; mill >= 0; mill--) {
                m.sack(mill, 999, 8);
            }
        }));
        edge.due("66.2 and 66.7 are the same head, rounded down", 0, turnedWith(m -> {
            water(m, 98, 98);
            m.pond(0, 148, 0);
            m.pond(1, 147, 0);
            m.sack(1, 999, 8);
            m.sack(0, 999, 8);
        }));
    }

    private static void onlyMillsThatCanTurnAreCompared() {
        edge.due("the earliest due has too low a head", 1, turnedWith(m -> {
            water(m, 58, 60);
            m.sack(0, 999, 1);
            m.sack(1, 999, 9);
        }));
        edge.due("the greatest head has no sacks", 1, turnedWith(m -> {
            water(m, 100, 60);
            m.sack(1, 999, 9);
        }));
    }

    private static void othersRest() {
        TideMills mills = Edge.made(m -> {
            water(m, 100, 100, 100, 100, 100);
            for (int mill = 0; mill < 5; mill++) {
                m.sack(mill, 999, 8 - mill);
            }
        });
        mills.pass(1);
        for (int mill = 0; mill < 5; mill++) {
            edge.due("hours that mill " + mill + " turned", mill == 4 ? 1 : 0, mills.mill(mill, 9));
            edge.due("its water", mill == 4 ? 80 : 100, mills.mill(mill, 1));
            edge.due("its rest", mill == 4 ? 999 - 240 : 999, mills.sackOf(mill, 2));
        }
        edge.due("water that was used", 20, mills.count(4));
    }

    private static void millUsesItsLastWater() {
        TideMills mills = fullMill(999);
        mills.set(2, 100);
        mills.pass(1);
        edge.due("all its water", 0, mills.mill(0, 1));
        edge.due("water that was used", 100, mills.count(4));
        TideMills least = fullMill(999);
        least.set(2, 5);
        least.pass(1);
        edge.due("the least water", 95, least.mill(0, 1));
    }

    private static void headAheadOfTheUse() {
        TideMills mills = fullMill(999);
        mills.set(2, 100);
        mills.pass(1);
        edge.due("turns by the head ahead of the use", 999 - 240, mills.sackOf(0, 2));
    }

    private static int groundWithGear(int wheel, int stone) {
        TideMills mills = fullMill(999);
        mills.gear(0, wheel, stone);
        mills.pass(1);
        return 999 - mills.sackOf(0, 2);
    }

    private static void turnsAreRoundedDown() {
        edge.due("60 times 8 by 60", 8, groundWithGear(8, 60));
        edge.due("60 times 60 by 8", 450, groundWithGear(60, 8));
        edge.due("60 times 9 by 8: 67.5", 67, groundWithGear(9, 8));
        edge.due("60 times 8 by 59: 8.14", 8, groundWithGear(8, 59));
        edge.due("60 times 59 by 60", 59, groundWithGear(59, 60));
        edge.due("60 times 8 by 9: 53.33", 53, groundWithGear(8, 9));
    }

    private static void noTurns() {
        TideMills mills = Edge.made(m -> {
            m.set(1, 0);
            water(m, 40);
            m.sack(0, 1, 9);
        });
        edge.due("a head of 0 grinds nothing", 0, mills.pass(1));
        edge.due("but turns", 0, mills.count(1));
        edge.due("in an hour", 1, mills.mill(0, 9));
        edge.due("that is not idle", 1, mills.count(2));
        edge.due("with water", 20, mills.mill(0, 1));
        edge.due("the rest stays", 1, mills.sackOf(0, 2));
        TideMills slow = Edge.made(m -> {
            m.set(1, 0);
            water(m, 46);
            m.gear(0, 8, 60);
            m.sack(0, 1, 9);
        });
        edge.due("a head of 6 by 8 and 60 turns no stone", 0, slow.pass(1));
        edge.due("the rest stays", 1, slow.sackOf(0, 2));
        TideMills quick = Edge.made(m -> {
            m.set(1, 0);
            water(m, 48);
            m.gear(0, 8, 60);
            m.sack(0, 1, 9);
        });
        edge.due("a head of 8 turns it once", 1, quick.pass(1));
    }

    private static void turnsAndTheFirstRest() {
        edge.due("one turn more than its rest", 1, fullMill(239).pass(1));
        edge.due("as many turns as its rest", 1, fullMill(240).pass(1));
        TideMills mills = fullMill(241);
        edge.due("one turn less than its rest", 0, mills.pass(1));
        edge.due("one is left", 1, mills.sackOf(0, 2));
        edge.due("of its hardness", 241, mills.sackOf(0, 1));
        TideMills gone = fullMill(240);
        gone.pass(1);
        edge.due("a sack that is ground is gone", TideMills.NONE, gone.sackOf(0, 2));
        edge.due("from its mill", 0, gone.mill(0, 7));
    }

    private static void turnsGoOnWithTheNextSack() {
        TideMills one = fullMill(239, 999);
        edge.due("one is ground", 1, one.pass(1));
        edge.due("one turn for the next", 998, one.sackOf(1, 2));
        TideMills none = fullMill(240, 999);
        edge.due("one is ground", 1, none.pass(1));
        edge.due("no turn for the next", 999, none.sackOf(1, 2));
        edge.due("both are ground", 2, fullMill(120, 120).pass(1));
        TideMills rest = fullMill(120, 121);
        edge.due("the second has one left", 1, rest.pass(1));
        edge.due("the second has one left", 1, rest.sackOf(1, 2));
    }

    private static void allSixSacksInAnHour() {
        TideMills all = fullMill(40, 40, 40, 40, 40, 40);
        edge.due("six sacks in an hour", 6, all.pass(1));
        edge.due("none is left", 0, all.count(7));
        edge.due("ground by the mill", 6, all.mill(0, 10));
        TideMills five = fullMill(40, 40, 40, 40, 40, 41);
        edge.due("five of six", 5, five.pass(1));
        edge.due("the last has one left", 1, five.sackOf(5, 2));
        edge.due("and is the first", 5, five.sackAt(0, 0));
    }

    private static void whatIsLeftIsLost() {
        TideMills mills = fullMill(1);
        mills.pass(1);
        mills.sack(0, 201, 50);
        edge.due("239 turns left do not count in the next hour", 0, mills.pass(1));
        edge.due("200 turns in the hour 3", 1, mills.sackOf(1, 2));
    }

    private static int lateWithDue(int due) {
        TideMills mills = Edge.made(m -> water(m, 100));
        mills.sack(0, 1, due);
        mills.pass(1);
        return mills.count(9);
    }

    private static void late() {
        edge.due("ground in the hour behind that in which it is due", 1, lateWithDue(1));
        edge.due("ground in the hour in which it is due", 0, lateWithDue(2));
        edge.due("ground in the hour before", 0, lateWithDue(3));
        edge.due("due as late as can be", 0, lateWithDue(9999));
    }

    private static void idle() {
        TideMills mills = fullMill(999);
        edge.due("idle in the hour 1", 1, mills.count(2));
        edge.due("none turned in the hour 1", TideMills.NONE, mills.count(1));
        mills.pass(1);
        edge.due("not idle in the hour 2", 1, mills.count(2));
        edge.due("mill 0 turned", 0, mills.count(1));
        mills.back(0);
        mills.pass(1);
        edge.due("idle in the hour 3", 2, mills.count(2));
        edge.due("none turned in the hour 3", TideMills.NONE, mills.count(1));
        edge.answers("all hours idle without sacks", 48, m -> m.pass(48), m -> m.count(2));
    }
}
