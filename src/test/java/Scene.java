import java.util.function.Supplier;

/** Objects in known states, and all that can be seen of one: so it is shown that a call changes nothing. */
final class Scene {
    private Scene() {
    }

    /** A new object. */
    static RailOffsets empty() {
        return new RailOffsets();
    }

    /** A line of one piece. */
    static RailOffsets one(int kind, int length, int bend, int cant) {
        RailOffsets x = new RailOffsets();
        x.piece(kind, length, bend, cant);
        return x;
    }

    static RailOffsets one(int kind, int length, int bend) {
        return one(kind, length, bend, 0);
    }

    /** Pieces, an image that differs from them, sheets of both sorts, one missing, one of no numbers, a text. */
    static RailOffsets ordinary() {
        RailOffsets x = new RailOffsets();
        x.piece(1, 2, -3, 10);
        x.piece(2, 3, 9, 40);
        x.piece(3, 1, 7, 25);
        x.rule(0, 3);
        x.rule(5, 55);
        x.rule(6, -12);
        x.image();
        x.set(0, 1, 4);
        x.piece(5, 2, 13, 5);
        x.rule(4, 6);
        x.rule(7, 21);
        Check.shorts(x, 0, 3, -2, 5, 0, 1);
        Check.ints(x, 1, 1, 2, 3, 44, 1, 5, 6, 20);
        x.sheet(3, 1, 0);
        Check.feed(x, "bend 0 7;drop");
        return x;
    }

    /** Ten pieces, a sheet of forty numbers, a tape of sixty bytes; no image. */
    static RailOffsets full() {
        RailOffsets x = new RailOffsets();
        for (int i = 0; i < 10; i++) {
            x.piece(i % 6, 1 + i % 2, 9 - 2 * i, 3 * i);
        }
        x.sheet(0, 0, 40);
        x.put(0, 3, 9);
        Check.ints(x, 1, 1, 2, 3, 4);
        x.sheet(2, 1, 9);
        Check.feed(x, "drop;drop;drop;drop;drop;drop;drop;drop;drop;drop;drop;drop ");
        return x;
    }

    /** The call answers so, and then the object is as if the call had never come. */
    static void unchanged(Supplier<RailOffsets> scene, long want, String name, int... numbers) {
        RailOffsets x = scene.get();
        Call call = new Call(name, numbers);
        Check.due(call.toString(), call.on(x), want);
        Check.same(call + " changed something:", whole(x), whole(scene.get()));
    }

    /** All that can be seen of an object. It is asked last of all, as to ask it changes the object. */
    static String whole(RailOffsets x) {
        StringBuilder all = new StringBuilder();
        counts(x, all);
        sheets(x, all);
        line(x, all);
        rules(x, all);
        all.append(" text ").append(x.text());
        line(x, all);
        rules(x, all);
        counts(x, all);
        all.append(" back ").append(x.back());
        line(x, all);
        rules(x, all);
        return all.toString();
    }

    private static void counts(RailOffsets x, StringBuilder all) {
        all.append(" counts");
        for (int what = 0; what < 5; what++) {
            all.append(' ').append(x.count(what));
        }
    }

    private static void line(RailOffsets x, StringBuilder all) {
        int pieces = x.count(0);
        for (int p = 0; p < pieces; p++) {
            all.append(" piece");
            for (int what = 0; what < 5; what++) {
                all.append(' ').append(x.of(p, what));
            }
        }
        all.append(" stations");
        int stations = x.count(1);
        for (int s = 1; s <= stations; s++) {
            all.append(' ').append(x.at(s, 0)).append('/').append(x.at(s, 1)).append('/').append(x.at(s, 3));
        }
    }

    /** To read a rule is to change it: all are 1 then. */
    private static void rules(RailOffsets x, StringBuilder all) {
        all.append(" rules");
        for (int r = 0; r < 8; r++) {
            all.append(' ').append(x.rule(r, 1));
        }
    }

    private static void sheets(RailOffsets x, StringBuilder all) {
        int stations = x.count(1);
        for (int sheet = 0; sheet < 4; sheet++) {
            all.append(" sheet ").append(x.load(sheet, 0, 0, 0));
            for (int s = 1; s <= stations; s++) {
                all.append(' ').append(x.slew(sheet, s));
            }
            all.append(" of ").append(size(x, sheet));
        }
    }

    /** How many numbers a sheet has; the ones that are looked at become 0. */
    private static int size(RailOffsets x, int sheet) {
        int least = -1;
        int most = 40;
        while (most - least > 1) {
            int middle = (least + most) / 2;
            if (x.put(sheet, middle, 0) == 1) {
                least = middle;
            } else {
                most = middle;
            }
        }
        return least + 1;
    }
}
