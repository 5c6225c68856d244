/** Promises 15, 16, 20 and 21: beds, and states that are kept. */
public final class NestTests {
    private static final int NONE = CellCurrents.NONE;
    private static final int[] NO_PLACES = {-1, 9, Integer.MIN_VALUE, Integer.MAX_VALUE};

    public static void main(String[] args) {
        nestsAreNumbered();
        nestRefuses();
        tenNestsAtMost();
        bedsStayEqual();
        equalOfNone();
        saveNumbersFour();
        backGivesAll();
        backGivesWhatSidesBrought();
        backGoesEitherWay();
        backRefusesWhatIsNot();
        backRefusesOfANewObject();
        backRefusesAfterADepth();
        backRefusesAfterANest();
        backLeavesWhatStepsDoNotChange();
        Check.end();
    }

    private static Sea sea(int x, int y) {
        Sea sea = new Sea(x, y, 1);
        for (int i = 0; i < x; i++) {
            for (int j = 0; j < y; j++) {
                sea.depth(i, j, 5.0 + i + 0.3 * j);
            }
        }
        return sea;
    }

    /** A sea of three by two in which all that can move does. */
    private static Sea moving() {
        Sea sea = sea(3, 2);
        sea.border(0, 0, 2.0, 0.1);
        sea.border(3, 1, 1.0, 0.6);
        sea.wind(0, 40.0, -50.0);
        sea.river(2, 1, 9.5);
        sea.run(5, 90.0);
        return sea;
    }

    private static void nestsAreNumbered() {
        Sea sea = sea(3, 1);
        Check.same("15 first", sea.nest(2, 0, 2), 0);
        Check.same("15 second", sea.nest(0, 0, 8), 1);
        Check.same("15 third", sea.nest(1, 0, 5), 2);
        Check.yes("16 first", sea.equal(0));
        Check.yes("16 second", sea.equal(1));
        Check.yes("16 third", sea.equal(2));
    }

    private static void nestRefuses() {
        Sea sea = sea(3, 2);
        sea.depth(1, 1, 0.0);
        for (int none : NO_PLACES) {
            Check.same("15 i " + none, sea.nest(none, 0, 2), NONE);
            Check.same("15 j " + none, sea.nest(0, none, 2), NONE);
            Check.same("15 n " + none, sea.nest(0, 0, none), NONE);
        }
        Check.same("15 n 1", sea.nest(0, 0, 1), NONE);
        Check.same("15 n 0", sea.nest(0, 0, 0), NONE);
        Check.same("15 land", sea.nest(1, 1, 2), NONE);
        Check.no("16 none yet", sea.equal(0));
        Check.same("15 the first all the same", sea.nest(0, 0, 3), 0);
        Check.same("15 has beds", sea.nest(0, 0, 3), NONE);
        sea.depth(0, 0, 5.0);
        Check.no("16 empty, though the volume is the same", sea.equal(0));
        Check.same("15 a new nest", sea.nest(0, 0, 3), 1);
        Check.yes("16 the new one", sea.equal(1));
        Check.no("16 the old one stays empty", sea.equal(0));
        sea.depth(0, 0, 0.0);
        Check.no("16 on land", sea.equal(1));
    }

    private static void tenNestsAtMost() {
        Sea sea = sea(1, 1);
        for (int k = 0; k < 10; k++) {
            Check.same("15 nest " + k, sea.nest(0, 0, 2 + k % 7), k);
            sea.depth(0, 0, 5.0);
        }
        Check.same("15 the eleventh", sea.nest(0, 0, 2), NONE);
        Sea other = sea(11, 1);
        for (int k = 0; k < 10; k++) {
            Check.same("15 nest " + k, other.nest(k, 0, 2), k);
        }
        Check.same("15 eleven cells", other.nest(10, 0, 2), NONE);
        Check.yes("16 the tenth", other.equal(9));
    }

    private static void bedsStayEqual() {
        for (int n = 2; n <= 8; n++) {
            Sea sea = moving();
            sea.nest(0, 0, n);
            sea.nest(2, 1, n);
            sea.nest(1, 0, 10 - n);
            for (int k = 0; k < 20; k++) {
                sea.run(3, 47.0);
                Check.yes("16 of " + n, sea.equal(0) && sea.equal(1) && sea.equal(2));
            }
        }
    }

    private static void equalOfNone() {
        Sea sea = sea(2, 1);
        sea.nest(0, 0, 2);
        Check.no("16 nest 1", sea.equal(1));
        Check.no("16 nest 10", sea.equal(10));
        for (int none : NO_PLACES) {
            Check.no("16 nest " + none, sea.equal(none));
        }
    }

    private static void saveNumbersFour() {
        Sea sea = sea(2, 1);
        for (int k = 0; k < 4; k++) {
            Check.same("20 save", sea.save(), k);
        }
        Check.same("20 fifth", sea.save(), NONE);
        sea.depth(0, 0, 3.0);
        Check.same("20 those that cannot come back count", sea.save(), NONE);
    }

    /** What can be read of a sea of three by two, as one text. */
    private static String picture(Sea sea) {
        StringBuilder text = new StringBuilder();
        for (int i = 0; i < 3; i++) {
            for (int j = 0; j < 2; j++) {
                text.append(sea.level(i, j)).append(' ').append(sea.warm(i, j, 0)).append(' ');
                text.append(sea.salt(i, j, 0)).append(' ').append(sea.mud(i, j)).append(' ');
                text.append(sea.speed(i, j, 0, 0)).append(' ').append(sea.speed(i, j, 0, 1)).append(' ');
            }
        }
        for (int side = 0; side < 4; side++) {
            text.append(sea.through(side, 0)).append(' ').append(sea.through(side, 1)).append(' ');
        }
        for (int nest = 0; nest < 3; nest++) {
            text.append(sea.equal(nest)).append(' ');
        }
        return text.append(sea.volume(0)).append(' ').append(sea.kept()).toString();
    }

    private static void backGivesAll() {
        Sea sea = moving();
        sea.nest(0, 0, 3);
        sea.nest(2, 1, 7);
        sea.run(1, 90.0);
        String before = picture(sea);
        Check.same("20 save", sea.save(), 0);
        Check.yes("20 changes nothing", picture(sea).equals(before));
        // So long that wind and tides are others: only a time that is back gives the same again.
        sea.run(50, 100.0);
        String after = picture(sea);
        Check.no("21 it went on", after.equals(before));
        Check.yes("21 back", sea.back(0));
        Check.yes("21 all is so again", picture(sea).equals(before));
        sea.run(50, 100.0);
        Check.yes("21 and goes on the same", picture(sea).equals(after));
        Check.yes("21 back once more", sea.back(0));
        Check.yes("21 all is so once more", picture(sea).equals(before));
    }

    private static void backGivesWhatSidesBrought() {
        Sea sea = moving();
        Check.same("20 save", sea.save(), 0);
        long over0 = sea.through(0, 0);
        long over3 = sea.through(3, 0);
        sea.run(9, 60.0);
        Check.yes("21 more came over", sea.through(0, 0) != over0 && sea.through(3, 0) != over3);
        sea.back(0);
        Check.same("21 side 0", sea.through(0, 0), over0);
        Check.same("21 side 3", sea.through(3, 0), over3);
        Check.yes("21 kept, rivers too", sea.kept());
    }

    private static void backGoesEitherWay() {
        Sea sea = moving();
        String[] pictures = new String[4];
        for (int k = 0; k < 4; k++) {
            sea.run(4, 200.0);
            pictures[k] = picture(sea);
            Check.same("20 save", sea.save(), k);
        }
        int[] order = {1, 3, 0, 2, 2};
        for (int k : order) {
            Check.yes("21 back to " + k, sea.back(k));
            Check.yes("21 as it was at " + k, picture(sea).equals(pictures[k]));
        }
        Check.same("20 still four", sea.save(), NONE);
    }

    private static void backRefusesWhatIsNot() {
        Sea sea = moving();
        Check.no("21 none yet", sea.back(0));
        sea.save();
        sea.run(1, 60.0);
        String now = picture(sea);
        Check.no("21 saved 1", sea.back(1));
        Check.no("21 saved 4", sea.back(4));
        for (int none : NO_PLACES) {
            Check.no("21 saved " + none, sea.back(none));
        }
        Check.yes("21 nothing changed", picture(sea).equals(now));
    }

    private static void backRefusesOfANewObject() {
        Sea sea = new Sea(2, 2, 1);
        Check.no("21 none yet", sea.back(0));
        Check.same("20 save", sea.save(), 0);
        Check.no("21 none but 0", sea.back(1));
        Check.yes("21 nothing, and back", sea.back(0));
    }

    private static void backRefusesAfterADepth() {
        Sea sea = moving();
        sea.save();
        Check.no("21 a depth that is refused", sea.depth(0, 0, -1.0));
        Check.no("21 a place that is refused", sea.depth(3, 0, 1.0));
        Check.yes("21 does not count", sea.back(0));
        sea.depth(0, 0, 5.0);
        sea.run(1, 60.0);
        String now = picture(sea);
        Check.no("21 a depth was told", sea.back(0));
        Check.yes("21 nothing changed", picture(sea).equals(now));
        Check.same("20 save again", sea.save(), 1);
        sea.run(1, 60.0);
        Check.no("21 still not", sea.back(0));
        Check.yes("21 but the later one", sea.back(1));
        Check.yes("21 as it was", picture(sea).equals(now));

        Sea land = new Sea(1, 1, 1);
        land.save();
        land.depth(0, 0, 0.0);
        Check.no("21 land told as land", land.back(0));
    }

    private static void backRefusesAfterANest() {
        Sea sea = moving();
        sea.save();
        Check.same("21 a nest that is refused", sea.nest(0, 0, 1), NONE);
        Check.yes("21 does not count", sea.back(0));
        sea.nest(0, 0, 2);
        Check.no("21 a cell was parted", sea.back(0));
        sea.save();
        sea.run(7, 60.0);
        Check.yes("21 but the later one", sea.back(1));
        Check.yes("16 with its beds", sea.equal(0));
    }

    private static void backLeavesWhatStepsDoNotChange() {
        Sea sea = sea(2, 1);
        sea.save();
        sea.river(1, 0, 3.0);
        sea.wind(0, 100.0, 0.0);
        sea.border(1, 0, 0.0, 0.0);
        sea.gauge(0, 0, 1.0, 2.0);
        sea.fit(0);
        sea.run(3, 60.0);
        Check.yes("21 a speed at the side", sea.speed(1, 0, 0, 0) != 0.0);
        Check.yes("21 back", sea.back(0));
        Check.same("21 no speed before the side was open", sea.speed(1, 0, 0, 0), 0.0);
        Check.same("21 the gauge stays", sea.differs(0, 0), 2.0);
        Check.same("21 the fit stays", sea.tide(3.0), 2.0);
        long volume = sea.volume(0);
        sea.run(1, 60.0);
        Check.same("21 river and side stay", sea.volume(0), volume + 180 + sea.through(1, 0) - (1L << 32));
        Check.same("21 the wind stays", sea.speed(0, 0, 0, 0), 60.0 * (0.00001 * 100.0 + 0.00981 * 0.0));
        Check.yes("21 kept", sea.kept());
    }
}
