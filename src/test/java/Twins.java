import java.util.ArrayList;
import java.util.List;

/**
 * Two seas are told the same, then one of them is told a call more that it has to refuse. Nothing
 * has changed if all that both answer later is the same: what can be read at once, and what only
 * shows when time goes on (winds, tides, rivers, the time itself), when kept states come back, or
 * when nests, gauges and states are filled up. All these seas have 3 by 2 cells and 2 layers.
 */
final class Twins {
    static final int X = 3;
    static final int Y = 2;

    private Twins() {
    }

    interface Maker {
        Sea make();
    }

    /** A call that tells whether it was answered as a refused one. */
    interface Call {
        boolean refused(Sea sea);
    }

    /** For a call that every sea has to refuse. */
    static void unchanged(String what, Call call) {
        unchanged(what + " (new sea)", Twins::land, call);
        unchanged(what + " (moving sea)", Twins::moving, call);
        unchanged(what + " (full sea)", Twins::full, call);
    }

    static void unchanged(String what, Maker maker, Call call) {
        Sea told = maker.make();
        Check.yes(what + " is refused", call.refused(told));
        List<String> got = later(told);
        List<String> due = later(maker.make());
        for (int k = 0; k < due.size() && k < got.size(); k++) {
            if (!got.get(k).equals(due.get(k))) {
                Check.yes(what + " changed " + due.get(k) + " to " + got.get(k), false);
                return;
            }
        }
        Check.same(what + " changes nothing", got.size(), due.size());
    }

    static Sea land() {
        return new Sea(X, Y, 2);
    }

    /** All that can move does; the cell 2, 1 is land that has a river; one nest is empty. */
    static Sea moving() {
        Sea sea = land();
        for (int k = 0; k < X * Y; k++) {
            sea.depth(k % X, k / X, 5.0 + 0.7 * k);
        }
        sea.river(2, 1, 4.0);
        sea.nest(2, 1, 4);
        sea.depth(2, 1, 0.0);
        sea.border(0, 0, 2.0, 0.1);
        sea.border(3, 1, 1.0, 0.6);
        for (int hour = 0; hour < 24; hour++) {
            sea.wind(hour, 40.0 - 3 * hour, 5 * hour - 50.0);
        }
        sea.river(1, 0, 9.5);
        sea.gauge(0, 0, 1.25, 0.75);
        sea.gauge(1, 1, 2.5, -0.5);
        sea.gauge(0, 0, 4.125, 0.25);
        sea.fit(1);
        sea.nest(0, 0, 3);
        sea.run(3, 90.0);
        sea.save();
        sea.run(2, 90.0);
        return sea;
    }

    /** As moving(), with 40 gauges, 10 nests (some of them empty), four states and all sides open. */
    static Sea full() {
        Sea sea = moving();
        for (int k = 0; k < 37; k++) {
            sea.gauge(k % X, k % Y, 3.3 * k, 0.1 * k);
        }
        sea.fit(2);
        for (int k = 0; k < 4; k++) {
            sea.depth(2, 0, 4.0 + k);
            sea.nest(2, 0, 2 + k);
        }
        sea.nest(1, 0, 2);
        sea.nest(0, 1, 7);
        sea.nest(1, 1, 8);
        sea.nest(2, 1, 2);
        sea.depth(2, 1, 3.0);
        sea.nest(2, 1, 6);
        sea.border(1, 0, 1.0, 0.3);
        sea.border(1, 7, 0.5, 0.0);
        sea.border(2, 2, 1.5, 0.9);
        for (int k = 0; k < 3; k++) {
            sea.run(3, 70.0);
            sea.save();
        }
        sea.run(1, 70.0);
        return sea;
    }

    /** What a sea answers from now on, each with its call. */
    private static List<String> later(Sea sea) {
        List<String> all = new ArrayList<>();
        look(sea, all);
        aDay(sea, all);
        for (int saved = 0; saved < 4; saved++) {
            all.add("back " + saved + ": " + sea.back(saved));
            all.add("volume of " + saved + ": " + sea.volume(0));
            all.add("level of " + saved + ": " + sea.level(0, 0));
        }
        all.add("run: " + sea.run(1, 33.0));
        look(sea, all);
        fillUp(sea, all);
        return all;
    }

    private static void look(Sea sea, List<String> all) {
        for (int k = 0; k < X * Y; k++) {
            int i = k % X;
            int j = k / X;
            String cell = " of " + i + ", " + j + ": ";
            all.add("level" + cell + sea.level(i, j));
            all.add("warmth" + cell + sea.warm(i, j, 0));
            all.add("salt" + cell + sea.salt(i, j, 1));
            all.add("speed of axis 0" + cell + sea.speed(i, j, 0, 0));
            all.add("speed of axis 1" + cell + sea.speed(i, j, 1, 1));
            all.add("mud" + cell + sea.mud(i, j));
            all.add("differs" + cell + sea.differs(i, j));
        }
        for (int side = 0; side < 4; side++) {
            all.add("through " + side + ": " + sea.through(side));
        }
        for (int nest = 0; nest < 10; nest++) {
            all.add("equal " + nest + ": " + sea.equal(nest));
        }
        all.add("volume: " + sea.volume(0));
        all.add("kept: " + sea.kept());
        all.add("tide at 0.75: " + sea.tide(0.75));
        all.add("tide at 1.1: " + sea.tide(1.1));
    }

    /** A wind shows in its hour, a tide in its time. */
    private static void aDay(Sea sea, List<String> all) {
        for (int hour = 0; hour < 24; hour++) {
            all.add("run: " + sea.run(9, 400.0));
            all.add("speed of axis 0 after hour " + hour + ": " + sea.speed(0, 0, 0, 0));
            all.add("speed of axis 1 after hour " + hour + ": " + sea.speed(0, 0, 0, 1));
        }
        for (int side = 0; side < 4; side++) {
            all.add("through " + side + " after a day: " + sea.through(side));
        }
    }

    /** How many more gauges, states and nests find room; and what land brings when it is flooded. */
    private static void fillUp(Sea sea, List<String> all) {
        for (int k = 0; k < 41; k++) {
            all.add("gauge " + k + ": " + sea.gauge(2, 1, 0.8 * k, 0.3));
        }
        for (int waves = 0; waves <= 2; waves++) {
            all.add("fit " + waves + ": " + sea.fit(waves));
            all.add("tide of " + waves + ": " + sea.tide(5.7));
        }
        for (int k = 0; k < 4; k++) {
            all.add("save: " + sea.save());
        }
        for (int k = 0; k < X * Y; k++) {
            all.add("nest at " + k + ": " + sea.nest(k % X, k / X, 2));
        }
        all.add("depth: " + sea.depth(2, 1, 2.0));
        all.add("run: " + sea.run(2, 20.0));
        all.add("volume at last: " + sea.volume(0));
        all.add("level at last: " + sea.level(2, 1));
    }
}
