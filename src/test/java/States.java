import java.util.function.Supplier;

/** Objects in states that matter, each made anew by its calls, and all that one can be asked for. */
final class States {
    private States() {
    }

    static HatsDecide nothing() {
        return new HatsDecide();
    }

    /** Some of all there is, of each KIND that has something of its own, and an older IMAGE. */
    static HatsDecide some() {
        HatsDecide x = Check.heads(3, 5, 7);
        x.hat(6, 4, 5, 20, 0);
        x.hat(2, 3, 5, 30, 1);
        x.hat(4, 9, 7, 25, 1);
        x.put(0, 2);
        Check.town(x, "moth 2;gall 1 a=0");
        x.own(2, 2);
        x.row(0, 3, 1);
        x.see(1, 30);
        x.book(2, 1);
        x.day();
        x.image();
        x.see(-1, 0);
        x.book(-1, 0);
        x.row(0, 0, 5);
        x.row(0, 1, 6);
        x.row(0, 2, 7);
        x.row(0, 3, 8);
        x.put(0, 0);
        x.put(1, 1);
        x.own(0, 1);
        x.own(1, 0);
        Check.town(x, "suit 4 e=1;gall 3 d=0&a=1;moth 7;work 1 30");
        x.day();
        x.day();
        x.see(0, 31);
        x.see(2, 25);
        x.book(0, 0);
        x.book(1, 2);
        Check.bytes(x, 0, 0, 1, -1, 2);
        x.tape(1, 2, 3);
        x.item(1, 2, 77);
        x.tape(2, 0, 0);
        x.act(0, 2, 5);
        for (char sign : "moth 9".toCharArray()) {
            x.feed(sign);
        }
        return x;
    }

    /** 6 HEADS, 6 HATS, all on, 6 SEEN, 8 rows in the BOOK. */
    static HatsDecide full() {
        HatsDecide x = Check.heads(0, 1, 2, 3, 4, 5);
        for (int i = 0; i < 6; i++) {
            x.hat(i + 1, 9 - i, i, 50 - 5 * i, i % 5);
            x.put(i, (i + 1) % 6);
            x.own(i, i);
            x.see(i, 10 * i);
        }
        for (int i = 0; i < 8; i++) {
            x.book(i % 6, (i + 1) % 6);
        }
        x.row(5, 2, 9);
        return x;
    }

    /** 6 TOWNS, 100 bytes of THE TEXT. */
    static HatsDecide fullOfTexts() {
        HatsDecide x = Check.heads(5, 5);
        x.hat(0, 0, 5, 9, 0);
        for (int i = 0; i < 6; i++) {
            Check.town(x, "moth 1" + i);
        }
        for (int i = 0; i < 100; i++) {
            x.feed("moth 1;".charAt(i % 7));
        }
        return x;
    }

    static String of(Supplier<HatsDecide> made) {
        return of(made.get());
    }

    /** All that the object answers, also as it is behind undo(); it is used up by that. */
    static String of(HatsDecide x) {
        StringBuilder all = new StringBuilder();
        asked(x, all);
        all.append("town ").append(x.town()).append(' ').append(x.told(1)).append(' ').append(x.count(5));
        all.append("\nundo ").append(x.undo()).append('\n');
        asked(x, all);
        return all.toString();
    }

    /** Asks no more than it must: an object is good for 512 calls. */
    private static void asked(HatsDecide x, StringBuilder all) {
        int[] counts = new int[7];
        for (int what = 0; what < counts.length; what++) {
            counts[what] = x.count(what);
            all.append(counts[what]).append(' ');
        }
        for (int what = 0; what < 5; what++) {
            all.append(x.told(10 + what)).append(' ').append(x.told(20 + what)).append(' ');
        }
        all.append("day ").append(x.told(0)).append(" moth ").append(x.told(1)).append("\nheads ");
        for (int head = 0; head < counts[1]; head++) {
            for (int what = 0; what <= 2; what++) {
                all.append(x.at(head, what)).append(' ');
            }
        }
        for (int hat = 0; hat < counts[0]; hat++) {
            hat(x, hat, counts[1], all);
        }
        all.append("\nwho ").append(x.who()).append(" looked ").append(x.looked()).append("\ntrace ");
        for (int i = 0; i < counts[6]; i++) {
            all.append(x.trace(i)).append(' ');
        }
        for (int tape = 0; tape < 6; tape++) {
            tape(x, tape, all);
        }
        all.append('\n');
    }

    private static void hat(HatsDecide x, int hat, int heads, StringBuilder all) {
        int kind = x.of(hat, 0);
        all.append("\nhat ").append(kind).append(" wore ").append(x.wore(hat)).append(" of ");
        for (int what = 1; what < 7; what++) {
            all.append(x.of(hat, what)).append(' ');
        }
        for (int head = 0; head < heads; head++) {
            all.append(x.of(hat, 10 + head)).append(' ');
        }
        for (int part = 0; part < 4 && kind == 6; part++) {
            int is = x.row(hat, part, 0);
            x.row(hat, part, is);
            all.append("row ").append(is).append(' ');
        }
    }

    private static void tape(HatsDecide x, int tape, StringBuilder all) {
        // Beyond its end, so that nothing changes: tells nothing there from an empty row.
        all.append("\ntape ").append(x.item(tape, 60, 1));
        for (int i = 0; i < 5; i++) {
            long item = x.read(tape, i);
            if (item == HatsDecide.NO) {
                break;
            }
            all.append(' ').append(item);
        }
    }
}
