/** Each promise by examples that were reckoned by hand from the document. */
public final class PromisesTest {
    public static void main(String[] args) {
        promise1();
        promise2();
        promise3();
        promise4();
        promise5();
        promise6();
        promise7();
        promise8();
        promise9();
        promise10();
        promise11();
        promise12();
        promise13();
        promise14Lamps();
        promise14Whispers();
        promise14Views();
        promise14Jars();
        promise14Warden();
        promise14Growth();
        promise14Order();
        promise14Refusals();
        promise15();
        promise16();
        promise17();
        promise18();
        promise19();
        promise20();
        Check.end();
    }

    private static void promise1() {
        FireflyInn inn = new FireflyInn();
        Check.same("1: counts of a new inn", Inns.counts(inn), "0 0 0 0 0 0 0 0 0");
        for (int y = 0; y < 5; y++) {
            Check.same("1: no fireflies at first", Inns.row(inn, y), "0 0 0 0 0 0 0 0 0 0");
        }
        Check.same("1: the first room", inn.open(4), 0);
        Check.same("1: the first guest", inn.stay(0, 1, false), 0);
        FireflyInn other = new FireflyInn();
        Check.same("1: inns share nothing", Inns.counts(other), "0 0 0 0 0 0 0 0 0");
    }

    private static void promise2() {
        FireflyInn inn = new FireflyInn();
        Check.same("2: had none", inn.swarm(3, 2, 40), 0);
        Check.same("2: had 40", inn.swarm(3, 2, 7), 40);
        Check.same("2: had 7", inn.swarm(3, 2, 0), 7);
        Check.same("2: corner", inn.swarm(0, 0, 1), 0);
        Check.same("2: corner", inn.swarm(9, 4, 2), 0);
        Check.same("2: corner", inn.swarm(9, 0, 3), 0);
        Check.same("2: corner", inn.swarm(0, 4, 4), 0);
        Check.same("2: row 0", Inns.row(inn, 0), "1 0 0 0 0 0 0 0 0 3");
        Check.same("2: row 4", Inns.row(inn, 4), "4 0 0 0 0 0 0 0 0 2");
        for (int bad : new int[] {-1, 10, Integer.MIN_VALUE, Integer.MAX_VALUE}) {
            Check.refused("2: x " + bad, inn, Check.INDEX, () -> inn.swarm(bad, 0, 9));
        }
        for (int bad : new int[] {-1, 5, Integer.MIN_VALUE, Integer.MAX_VALUE}) {
            Check.refused("2: y " + bad, inn, Check.INDEX, () -> inn.swarm(0, bad, 9));
        }
        for (int bad : new int[] {-1, 41, Integer.MIN_VALUE, Integer.MAX_VALUE}) {
            Check.refused("2: many " + bad, inn, Check.ARGUMENT, () -> inn.swarm(0, 0, bad));
            Check.refused("2: the cell goes first", inn, Check.INDEX, () -> inn.swarm(10, 0, bad));
            Check.refused("2: the cell goes first", inn, Check.INDEX, () -> inn.swarm(0, 5, bad));
        }
    }

    private static void promise3() {
        FireflyInn inn = new FireflyInn();
        inn.swarm(9, 0, 11);
        inn.swarm(0, 4, 12);
        Check.told("3: a cell", inn, 11, () -> inn.cell(9, 0));
        Check.told("3: a cell", inn, 12, () -> inn.cell(0, 4));
        Check.told("3: an empty cell", inn, 0, () -> inn.cell(9, 4));
        for (int bad : new int[] {-1, 10, Integer.MIN_VALUE, Integer.MAX_VALUE}) {
            Check.refused("3: x " + bad, inn, Check.INDEX, () -> inn.cell(bad, 0));
        }
        for (int bad : new int[] {-1, 5, Integer.MIN_VALUE, Integer.MAX_VALUE}) {
            Check.refused("3: y " + bad, inn, Check.INDEX, () -> inn.cell(0, bad));
        }
    }

    private static void promise4() {
        FireflyInn inn = new FireflyInn();
        int[] windows = {0, 9, 4, 4, 5, 1};
        for (int r = 0; r < 6; r++) {
            for (int bad : new int[] {-1, 10, Integer.MIN_VALUE, Integer.MAX_VALUE}) {
                Check.refused("4: x " + bad, inn, Check.ARGUMENT, () -> inn.open(bad));
            }
            Check.same("4: number", inn.open(windows[r]), r);
            Check.same("4: its window, lamp, guests", Inns.allOfRoom(inn, r), windows[r] + " 1 0 0 0");
            Check.same("4: rooms", inn.count(3), r + 1);
        }
        Check.refused("4: there are 6", inn, Check.STATE, () -> inn.open(3));
        Check.refused("4: the argument goes first", inn, Check.ARGUMENT, () -> inn.open(10));
    }

    private static void promise5() {
        FireflyInn inn = Inns.withRooms(2, 7);
        Check.same("5: out", inn.lamp(1), false);
        Check.same("5: this one alone", inn.room(0, 1) + " " + inn.room(1, 1), "1 0");
        Check.same("5: lit", inn.lamp(1), true);
        Check.same("5: burns", inn.room(1, 1), 1);
        Check.same("5: out", inn.lamp(0), false);
        for (int bad : new int[] {-1, 2, 6, Integer.MIN_VALUE, Integer.MAX_VALUE}) {
            Check.refused("5: room " + bad, inn, Check.INDEX, () -> inn.lamp(bad));
        }
    }

    private static void promise6() {
        FireflyInn inn = Inns.withRooms(2, 7);
        inn.stay(1, 4, true);
        inn.stay(1, 5, false);
        inn.stay(1, 9, true);
        inn.stay(0, 1, false);
        inn.lamp(0);
        Check.same("6: room 0", Inns.allOfRoom(inn, 0), "2 0 1 1 0");
        Check.same("6: room 1", Inns.allOfRoom(inn, 1), "7 1 3 18 2");
        inn.leave(2);
        Check.same("6: those who stay alone", Inns.allOfRoom(inn, 1), "7 1 2 9 1");
        Check.told("6: nothing changes", inn, 9, () -> inn.room(1, 3));
        for (int bad : new int[] {-1, 2, 6, Integer.MIN_VALUE, Integer.MAX_VALUE}) {
            Check.refused("6: room " + bad, inn, Check.INDEX, () -> inn.room(bad, 0));
        }
        for (int bad : new int[] {-1, 5, Integer.MIN_VALUE, Integer.MAX_VALUE}) {
            Check.refused("6: what " + bad, inn, Check.INDEX, () -> inn.room(0, bad));
        }
    }

    private static void promise7() {
        FireflyInn inn = Inns.withRooms(0, 5, 9);
        boolean[] lit = {true, true, false, false, true, true, true, false, true, true};
        for (int x = 0; x < 10; x++) {
            int at = x;
            Check.told("7: column " + x, inn, lit[x], () -> inn.isLit(at));
        }
        inn.lamp(1);
        Check.same("7: left of a dark window", inn.isLit(4), false);
        Check.same("7: a dark window", inn.isLit(5), false);
        inn.open(4);
        Check.same("7: by the room beside", inn.isLit(5), true);
        Check.same("7: two away", inn.isLit(6), false);
        for (int bad : new int[] {-1, 10, Integer.MIN_VALUE, Integer.MAX_VALUE}) {
            Check.refused("7: x " + bad, inn, Check.INDEX, () -> inn.isLit(bad));
        }
    }

    private static void promise8() {
        FireflyInn inn = Inns.withRooms(2, 7);
        for (int bad : new int[] {-1, 2, 6, Integer.MIN_VALUE, Integer.MAX_VALUE}) {
            Check.refused("8: room " + bad, inn, Check.INDEX, () -> inn.stay(bad, 0, true));
            Check.refused("8: the room goes first", inn, Check.INDEX, () -> inn.stay(bad, 10, true));
        }
        for (int bad : new int[] {-1, 10, Integer.MIN_VALUE, Integer.MAX_VALUE}) {
            Check.refused("8: whisper " + bad, inn, Check.ARGUMENT, () -> inn.stay(0, bad, true));
        }
        for (int g = 0; g < 12; g++) {
            int whisper = g % 10;
            boolean jar = g % 3 == 0;
            Check.same("8: number", inn.stay(g % 2, whisper, jar), g);
            Check.same("8: the guest", Inns.allOfGuest(inn, g), g % 2 + " " + whisper + " " + (jar ? 1 : 0) + " 0 0 0");
        }
        Check.refused("8: there are 12", inn, Check.STATE, () -> inn.stay(0, 0, true));
        Check.refused("8: the whisper goes first", inn, Check.ARGUMENT, () -> inn.stay(0, 10, true));
        Check.refused("8: the room goes first", inn, Check.INDEX, () -> inn.stay(2, 0, true));
        inn.leave(3);
        Check.refused("8: one who has left still counts", inn, Check.STATE, () -> inn.stay(0, 0, true));
    }

    private static void promise9() {
        FireflyInn inn = Inns.withRooms(2, 7);
        inn.stay(0, 4, true);
        inn.stay(1, 5, false);
        Check.same("9: the room before", inn.move(0, 1), 0);
        Check.same("9: moved", Inns.allOfGuest(inn, 0), "1 4 1 0 0 0");
        Check.same("9: room 0", Inns.allOfRoom(inn, 0), "2 1 0 0 0");
        Check.same("9: room 1", Inns.allOfRoom(inn, 1), "7 1 2 9 1");
        Check.same("9: to the same room", inn.move(0, 1), 1);
        Check.same("9: back", inn.move(0, 0), 1);
        for (int bad : new int[] {-1, 2, 12, Integer.MIN_VALUE, Integer.MAX_VALUE}) {
            Check.refused("9: guest " + bad, inn, Check.INDEX, () -> inn.move(bad, 0));
            Check.refused("9: room " + bad, inn, Check.INDEX, () -> inn.move(0, bad));
        }
        inn.leave(1);
        Check.refused("9: has left", inn, Check.STATE, () -> inn.move(1, 0));
        Check.refused("9: the room goes first", inn, Check.INDEX, () -> inn.move(1, 2));
    }

    private static void promise10() {
        FireflyInn inn = Inns.withDarkRooms(4, 8);
        inn.swarm(4, 2, 9);
        inn.stay(1, 3, false);
        inn.stay(0, 4, true);
        inn.stay(1, 5, true);
        Check.same("10: a night", inn.pass(1), 9);
        Check.same("10: what this one saw", inn.leave(1), 9);
        Check.same("10: it is left", Inns.allOfGuest(inn, 1), "0 4 0 3 9 1");
        Check.same("10: who saw nothing", inn.leave(2), 0);
        Check.same("10: the jar goes along", Inns.allOfGuest(inn, 2), "1 5 0 0 0 1");
        Check.same("10: and is not found", inn.count(7), 1);
        Check.same("10: others stay", Inns.allOfGuest(inn, 0), "1 3 0 0 0 0");
        Check.refused("10: twice", inn, Check.STATE, () -> inn.leave(1));
        for (int bad : new int[] {-1, 3, 12, Integer.MIN_VALUE, Integer.MAX_VALUE}) {
            Check.refused("10: guest " + bad, inn, Check.INDEX, () -> inn.leave(bad));
        }
        inn.move(0, 0);
        Check.same("10: who has left sees nothing more", inn.pass(1), 6 / 2);
        Check.same("10: and takes nothing more", inn.guest(1, 3), 3);
    }

    private static void promise11() {
        FireflyInn inn = Inns.withRooms(4);
        inn.stay(0, 7, true);
        inn.stay(0, 2, true);
        Check.same("11: before", inn.hush(0, 0), 7);
        Check.same("11: before", inn.hush(0, 9), 0);
        Check.same("11: now", Inns.allOfGuest(inn, 0), "0 9 1 0 0 0");
        Check.same("11: the other", Inns.allOfGuest(inn, 1), "0 2 1 0 0 0");
        Check.same("11: in the room", inn.room(0, 3), 11);
        for (int bad : new int[] {-1, 2, 12, Integer.MIN_VALUE, Integer.MAX_VALUE}) {
            Check.refused("11: guest " + bad, inn, Check.INDEX, () -> inn.hush(bad, 0));
            Check.refused("11: the guest goes first", inn, Check.INDEX, () -> inn.hush(bad, 10));
        }
        for (int bad : new int[] {-1, 10, Integer.MIN_VALUE, Integer.MAX_VALUE}) {
            Check.refused("11: whisper " + bad, inn, Check.ARGUMENT, () -> inn.hush(0, bad));
        }
        inn.leave(0);
        Check.same("11: also one who has left", inn.hush(0, 3), 9);
        Check.same("11: now", inn.guest(0, 1), 3);
        Check.same("11: not in the room", inn.room(0, 3), 2);
    }

    private static void promise12() {
        FireflyInn inn = Inns.withDarkRooms(4, 8);
        inn.swarm(8, 1, 9);
        inn.stay(0, 3, false);
        inn.stay(1, 4, true);
        inn.pass(1);
        Check.same("12: without a jar", Inns.allOfGuest(inn, 0), "0 3 0 0 0 0");
        Check.same("12: with a jar", Inns.allOfGuest(inn, 1), "1 4 1 3 9 0");
        Check.told("12: nothing changes", inn, 9, () -> inn.guest(1, 4));
        inn.move(1, 0);
        inn.leave(1);
        Check.same("12: who has left", Inns.allOfGuest(inn, 1), "0 4 0 3 9 1");
        for (int bad : new int[] {-1, 2, 12, Integer.MIN_VALUE, Integer.MAX_VALUE}) {
            Check.refused("12: guest " + bad, inn, Check.INDEX, () -> inn.guest(bad, 0));
        }
        for (int bad : new int[] {-1, 6, Integer.MIN_VALUE, Integer.MAX_VALUE}) {
            Check.refused("12: what " + bad, inn, Check.INDEX, () -> inn.guest(0, bad));
        }
    }

    private static void promise13() {
        FireflyInn inn = Inns.withRooms(0, 5, 5);
        inn.lamp(2);
        inn.swarm(3, 3, 8);
        inn.swarm(3, 4, 9);
        inn.stay(0, 1, true);
        inn.stay(1, 1, true);
        inn.stay(2, 1, true);
        inn.stay(2, 1, false);
        Check.same("13: counts", Inns.counts(inn), "0 0 17 3 2 4 3 0 5");
        inn.pass(1);
        Check.same("13: after a night", Inns.counts(inn), "1 1 17 3 2 4 2 1 5");
        inn.leave(1);
        Check.same("13: one has left", Inns.counts(inn), "1 1 17 3 2 3 1 1 5");
        inn.lamp(0);
        inn.lamp(1);
        inn.pass(2);
        Check.same("13: later", Inns.counts(inn), "3 3 17 3 0 3 0 2 0");
        int[] light = {3, 4, 3, 2, 1, 0, 1, 2, 3, 4, 3};
        for (int n = 0; n < light.length; n++) {
            Check.same("13: the night", inn.count(0), 3 + n);
            Check.same("13: the moon", inn.count(1), light[n]);
            inn.pass(1);
        }
        Check.told("13: nothing changes", inn, 17, () -> inn.count(2));
        for (int bad : new int[] {-1, 9, Integer.MIN_VALUE, Integer.MAX_VALUE}) {
            Check.refused("13: what " + bad, inn, Check.INDEX, () -> inn.count(bad));
        }
    }

    private static void promise14Lamps() {
        FireflyInn inn = Inns.withRooms(3);
        inn.swarm(2, 0, 21);
        inn.swarm(3, 0, 20);
        inn.swarm(4, 0, 9);
        inn.swarm(4, 4, 7);
        Check.same("14.1: without guests", inn.pass(1), 0);
        Check.same("14.1: half to the left, half to the right", Inns.row(inn, 0), "0 11 11 20 5 4 0 0 0 0");
        Check.same("14.1: in each row", Inns.row(inn, 4), "0 0 0 0 4 3 0 0 0 0");

        FireflyInn ends = Inns.withRooms(0, 9);
        for (int x = 0; x < 10; x++) {
            ends.swarm(x, 1, 8);
        }
        ends.pass(1);
        Check.same("14.1: at the ends", Inns.row(ends, 1), "8 4 13 8 8 8 8 13 4 8");

        FireflyInn full = Inns.withRooms(3);
        full.swarm(2, 0, 40);
        full.swarm(1, 0, 35);
        full.pass(1);
        Check.same("14.1: more than 40 are lost", Inns.row(full, 0), "0 40 20 0 0 0 0 0 0 0");

        FireflyInn twice = Inns.withRooms(1, 5);
        twice.swarm(2, 2, 20);
        twice.swarm(3, 2, 5);
        twice.swarm(4, 2, 20);
        twice.pass(1);
        Check.same("14.1: from both sides", Inns.row(twice, 2), "0 0 10 27 10 0 0 0 0 0");

        FireflyInn all = Inns.withRooms(1, 4, 7, 9);
        all.swarm(5, 3, 40);
        all.pass(5);
        Check.same("14.1: without such a cell they stay", Inns.row(all, 3), "0 0 0 0 0 40 0 0 0 0");

        FireflyInn out = Inns.withDarkRooms(3);
        out.swarm(2, 0, 8);
        out.pass(1);
        Check.same("14.1: a lamp that does not burn", Inns.row(out, 0), "0 0 8 0 0 0 0 0 0 0");
    }

    private static FireflyInn forWhispers(int first, int second) {
        FireflyInn inn = Inns.withDarkRooms(5, 0);
        int[] many = {10, 0, 40, 30, 20};
        for (int y = 0; y < 5; y++) {
            inn.swarm(5, y, many[y]);
            inn.swarm(4, y, y);
        }
        inn.stay(0, first, false);
        inn.stay(0, second, false);
        return inn;
    }

    private static void promise14Whispers() {
        FireflyInn loud = forWhispers(1, 9);
        Check.same("14.2: seen", loud.pass(1), 220);
        Check.same("14.2: down as far as there is room", Inns.column(loud, 5), "0 11 11 40 40");
        Check.same("14.2: this column alone", Inns.column(loud, 4), "0 1 2 3 4");

        FireflyInn quiet = forWhispers(0, 9);
        quiet.pass(1);
        Check.same("14.2: 9 is not loud", Inns.column(quiet, 5), "11 0 40 33 22");

        FireflyInn left = forWhispers(9, 9);
        left.leave(0);
        left.pass(1);
        Check.same("14.2: who has left does not whisper", Inns.column(left, 5), "11 0 40 33 22");

        FireflyInn apart = forWhispers(9, 9);
        apart.move(0, 1);
        apart.pass(1);
        Check.same("14.2: not from two rooms", Inns.column(apart, 5), "11 0 40 33 22");

        FireflyInn twice = Inns.withDarkRooms(5, 5);
        twice.swarm(5, 0, 9);
        for (int g = 0; g < 4; g++) {
            twice.stay(g / 2, 5, false);
        }
        twice.pass(1);
        Check.same("14.2: room by room", Inns.column(twice, 5), "0 0 9 0 0");

        FireflyInn lit = Inns.withRooms(0);
        lit.swarm(0, 3, 30);
        lit.swarm(0, 4, 35);
        lit.stay(0, 9, false);
        lit.stay(0, 9, false);
        lit.pass(1);
        Check.same("14.2: with a lamp too", Inns.column(lit, 0), "0 0 0 25 40");
    }

    private static void promise14Views() {
        FireflyInn inn = Inns.withDarkRooms(5);
        for (int x = 3; x <= 7; x++) {
            inn.swarm(x, x - 3, 9);
        }
        inn.stay(0, 0, false);
        int[] due = {27, 13, 9, 6, 0, 6, 9, 13, 27, 13};
        for (int n = 0; n < due.length; n++) {
            Check.same("14.3: night " + n, inn.pass(1), due[n]);
        }
        Check.same("14.3: in all", inn.guest(0, 4), 123);

        FireflyInn several = Inns.withDarkRooms(0, 9, 4);
        several.swarm(0, 0, 3);
        several.swarm(1, 1, 4);
        several.swarm(2, 1, 9);
        several.swarm(8, 2, 5);
        several.swarm(9, 4, 6);
        several.stay(0, 0, false);
        several.stay(1, 0, false);
        several.stay(2, 0, false);
        several.lamp(2);
        Check.same("14.3: two see, one has a lamp", several.pass(1), 18);
        Check.same("14.3: at the left end", several.guest(0, 4), 7);
        Check.same("14.3: at the right end", several.guest(1, 4), 11);
        Check.same("14.3: by a burning lamp", several.guest(2, 4), 0);
        Check.same("14.3: each one's part is cut", several.pass(1), 8);
        Check.same("14.3: several nights", several.pass(7), 2 + 3 + 1 + 2 + 0 + 1 + 2 + 2 + 3 + 3 + 5 + 7 + 11);

        FireflyInn beside = Inns.withRooms(4, 5);
        beside.lamp(0);
        beside.swarm(3, 0, 9);
        beside.swarm(5, 0, 9);
        beside.stay(0, 0, false);
        Check.same("14.3: a lamp beside does not hinder", beside.pass(1), 18);
    }

    private static void promise14Jars() {
        FireflyInn inn = Inns.withDarkRooms(0, 5, 7);
        inn.swarm(5, 1, 2);
        inn.swarm(5, 3, 4);
        inn.swarm(4, 0, 9);
        inn.swarm(6, 0, 9);
        inn.stay(1, 0, true);
        inn.stay(1, 0, false);
        inn.stay(1, 0, true);
        inn.pass(1);
        Check.same("14.4: by numbers, the uppermost cell", Inns.column(inn, 5), "0 0 0 1 0");
        Check.same("14.4: the column of the window alone", inn.count(2), 19);
        Check.same("14.4: seen before", inn.guest(2, 4), 24);
        Check.same("14.4: the first takes 2", inn.guest(0, 3), 2);
        Check.same("14.4: without a jar", inn.guest(1, 3), 0);
        Check.same("14.4: the second takes 3", inn.guest(2, 3), 3);
        inn.pass(1);
        Check.same("14.4: the last one", inn.guest(0, 3) + " " + inn.guest(2, 3), "3 3");
        Check.same("14.4: none is left", Inns.column(inn, 5), "0 0 0 0 0");

        FireflyInn lit = Inns.withRooms(0, 1, 9);
        lit.swarm(0, 2, 30);
        lit.stay(1, 0, true);
        lit.move(0, 0);
        lit.move(0, 1);
        lit.swarm(1, 2, 9);
        lit.pass(1);
        Check.same("14.4: with a lamp too", Inns.column(lit, 1), "0 0 6 0 0");
    }

    private static void promise14Warden() {
        FireflyInn inn = Inns.withRooms(0, 5, 9);
        inn.stay(2, 0, true);
        inn.stay(1, 0, true);
        inn.stay(0, 0, true);
        inn.stay(0, 0, true);
        inn.stay(0, 0, false);
        inn.stay(1, 0, true);
        inn.leave(5);
        inn.pass(1);
        Check.same("14.5: room 0 in the night 0", Inns.counts(inn), "1 1 0 3 3 5 2 2 7");
        inn.pass(1);
        Check.same("14.5: room 1 in the night 1", Inns.counts(inn), "2 2 0 3 3 5 1 3 7");
        inn.move(0, 1);
        inn.pass(2);
        Check.same("14.5: who moves on is not found", Inns.counts(inn), "4 4 0 3 3 5 1 3 7");
        inn.pass(1);
        Check.same("14.5: room 1 in the night 4", Inns.counts(inn), "5 3 0 3 3 5 0 4 7");
        inn.open(3);
        inn.stay(1, 0, true);
        inn.pass(1);
        Check.same("14.5: of 4 rooms, room 1 in the night 5", Inns.counts(inn), "6 2 0 4 4 6 0 5 9");

        FireflyInn none = new FireflyInn();
        Check.same("14.5: without rooms", none.pass(60), 0);
        Check.same("14.5: without rooms", Inns.counts(none), "60 4 0 0 0 0 0 0 0");
    }

    private static void promise14Growth() {
        FireflyInn inn = Inns.withRooms(9);
        int[] many = {9, 10, 19, 20, 39, 40, 36, 37};
        for (int x = 0; x < 7; x++) {
            inn.swarm(x, x % 5, many[x]);
        }
        inn.swarm(9, 0, 30);
        inn.pass(1);
        for (int x = 0; x < 7; x++) {
            int due = Math.min(40, many[x] + many[x] / 10);
            Check.same("14.6: from " + many[x], inn.cell(x, x % 5), due);
        }
        Check.same("14.6: not in a lit column", inn.cell(9, 0), 30);
        Check.same("14.6: nowhere else", inn.count(2), 9 + 11 + 20 + 22 + 40 + 40 + 39 + 30);
        inn.lamp(0);
        inn.pass(2);
        Check.same("14.6: when the lamp is out", inn.cell(9, 0), 36);
    }

    private static void promise14Order() {
        // Jars are filled before the warden comes, and the tenth is of what they leave.
        FireflyInn inn = Inns.withDarkRooms(5);
        inn.swarm(5, 0, 12);
        inn.swarm(5, 1, 23);
        inn.stay(0, 0, true);
        Check.same("14: seen before the jar takes", inn.pass(1), 35);
        Check.same("14: the jar before the growth", Inns.column(inn, 5), "9 25 0 0 0");
        Check.same("14: the jar before the warden", Inns.allOfGuest(inn, 0), "0 0 0 3 35 0");

        // Lamps go before whispers, whispers before jars.
        FireflyInn both = Inns.withRooms(4, 2, 9);
        both.lamp(1);
        both.swarm(3, 0, 8);
        both.swarm(2, 1, 5);
        both.stay(1, 9, true);
        both.stay(1, 9, false);
        both.pass(1);
        Check.same("14: driven aside", Inns.column(both, 3), "4 0 0 0 0");
        Check.same("14: then down, then taken", Inns.column(both, 2), "0 1 5 0 0");
        Check.same("14: the guests see both columns", both.guest(1, 4), 13);

        FireflyInn many = Inns.withDarkRooms(5);
        many.swarm(4, 0, 9);
        many.stay(0, 0, false);
        Check.same("14: many nights at once", many.pass(60), 7 * (9 + 4 + 3 + 2 + 0 + 2 + 3 + 4) + 9 + 4 + 3 + 2);
        Check.same("14: the night then", many.count(0), 60);
    }

    private static void promise14Refusals() {
        FireflyInn inn = Inns.withRooms(5);
        inn.swarm(5, 0, 20);
        for (int bad : new int[] {0, -1, 61, Integer.MIN_VALUE, Integer.MAX_VALUE}) {
            Check.refused("14: nights " + bad, inn, Check.ARGUMENT, () -> inn.pass(bad));
        }
    }

    private static void promise15() {
        FireflyInn inn = new FireflyInn();
        int[][] due = {
            {0, 0, 0, 0, 0}, {7, 0, 0, 0, 0}, {6, 5, 0, 0, 0}, {5, 4, 3, 0, 0},
            {4, 3, 2, 1, 0}, {3, 2, 1, 0, 0}, {2, 1, 0, 0, 0}, {1, 0, 0, 0, 0}};
        for (int night = 0; night < 17; night++) {
            for (int most = 0; most <= 4; most++) {
                int light = most;
                Check.told("15: night " + night + ", most " + most, inn, due[night % 8][most], () -> inn.dark(light));
            }
            inn.pass(1);
        }
        for (int bad : new int[] {-1, 5, Integer.MIN_VALUE, Integer.MAX_VALUE}) {
            Check.refused("15: most " + bad, inn, Check.ARGUMENT, () -> inn.dark(bad));
        }
    }

    private static FireflyInn busy() {
        FireflyInn inn = Inns.withRooms(3, 8, 0);
        int[][] cells = {{2, 0, 20}, {3, 1, 17}, {4, 2, 40}, {5, 4, 9}, {0, 3, 12}, {9, 0, 31}};
        for (int[] c : cells) {
            inn.swarm(c[0], c[1], c[2]);
        }
        inn.lamp(0);
        inn.stay(0, 4, true);
        inn.stay(0, 6, false);
        inn.stay(1, 9, true);
        inn.stay(2, 0, true);
        return inn;
    }

    private static int taken(FireflyInn inn) {
        int sum = 0;
        for (int g = 0; g < inn.count(5); g++) {
            sum += inn.guest(g, 3);
        }
        return sum;
    }

    private static void promise16() {
        for (int nights : new int[] {1, 2, 7, 59, 60}) {
            FireflyInn asked = busy();
            FireflyInn twin = busy();
            asked.pass(1);
            twin.pass(1);
            int before = taken(twin);
            int seen = twin.pass(nights);
            Check.told("16: seen in " + nights, asked, seen, () -> asked.foresee(nights, 0));
            Check.told("16: fireflies behind " + nights, asked, twin.count(2), () -> asked.foresee(nights, 1));
            Check.told("16: taken in " + nights, asked, taken(twin) - before, () -> asked.foresee(nights, 2));
            Check.same("16: as it was told", asked.pass(nights) + " " + asked.digest(), seen + " " + twin.digest());
        }
        FireflyInn inn = busy();
        FireflyInn jars = Inns.withDarkRooms(0, 5);
        jars.swarm(5, 0, 20);
        jars.stay(1, 0, true);
        Check.told("16: taken", jars, 3, () -> jars.foresee(1, 2));
        Check.told("16: taken until the warden comes", jars, 6, () -> jars.foresee(60, 2));
        Check.told("16: seen", jars, 20 + 18 / 2, () -> jars.foresee(2, 0));
        Check.told("16: left", jars, 18, () -> jars.foresee(1, 1));
        jars.pass(1);
        Check.told("16: taken from now on", jars, 3, () -> jars.foresee(60, 2));
        FireflyInn loud = Inns.withDarkRooms(5);
        loud.swarm(5, 3, 5);
        loud.swarm(5, 4, 5);
        loud.stay(0, 9, false);
        loud.stay(0, 1, false);
        Check.told("16: whispers too", loud, 11, () -> loud.foresee(1, 1));
        for (int bad : new int[] {0, -1, 61, Integer.MIN_VALUE, Integer.MAX_VALUE}) {
            Check.refused("16: nights " + bad, inn, Check.ARGUMENT, () -> inn.foresee(bad, 0));
            Check.refused("16: the nights go first", inn, Check.ARGUMENT, () -> inn.foresee(bad, 3));
        }
        for (int bad : new int[] {-1, 3, Integer.MIN_VALUE, Integer.MAX_VALUE}) {
            Check.refused("16: what " + bad, inn, Check.INDEX, () -> inn.foresee(1, bad));
        }
    }

    private static void promise17() {
        FireflyInn none = new FireflyInn();
        Check.told("17: without rooms", none, -1, () -> none.advise(30));

        FireflyInn inn = Inns.withRooms(1, 5, 5, 9);
        inn.swarm(1, 0, 5);
        inn.swarm(5, 0, 6);
        inn.swarm(9, 0, 6);
        Check.told("17: without guests", inn, -1, () -> inn.advise(1));
        inn.stay(0, 0, false);
        Check.told("17: the only guest's lamp", inn, 0, () -> inn.advise(1));
        inn.stay(3, 0, false);
        Check.told("17: who sees more", inn, 3, () -> inn.advise(1));
        inn.stay(2, 0, false);
        Check.told("17: of several the smallest", inn, 2, () -> inn.advise(1));
        inn.stay(1, 0, false);
        Check.told("17: of several the smallest", inn, 1, () -> inn.advise(1));
        inn.lamp(1);
        Check.told("17: a lamp that is out already", inn, 2, () -> inn.advise(1));
        inn.lamp(2);
        inn.lamp(3);
        inn.lamp(0);
        Check.told("17: all are out", inn, -1, () -> inn.advise(30));

        FireflyInn moon = Inns.withRooms(5);
        moon.swarm(5, 0, 9);
        moon.stay(0, 0, false);
        moon.pass(4);
        Check.told("17: the full moon", moon, -1, () -> moon.advise(1));
        Check.told("17: the night behind it", moon, 0, () -> moon.advise(2));
        FireflyInn seen = Inns.withRooms(5, 0);
        seen.lamp(0);
        seen.swarm(5, 0, 9);
        seen.stay(0, 0, false);
        Check.told("17: no more than without", seen, -1, () -> seen.advise(2));
        for (int bad : new int[] {0, -1, 31, 60, Integer.MIN_VALUE, Integer.MAX_VALUE}) {
            Check.refused("17: nights " + bad, inn, Check.ARGUMENT, () -> inn.advise(bad));
        }
    }

    private static void promise18() {
        FireflyInn none = new FireflyInn();
        Check.told("18: without guests", none, -1, () -> none.harm(30));

        FireflyInn inn = Inns.withRooms(1, 5, 9);
        inn.swarm(1, 0, 2);
        inn.swarm(5, 0, 9);
        inn.swarm(9, 0, 9);
        inn.stay(1, 0, false);
        Check.told("18: without jars", inn, -1, () -> inn.harm(1));
        inn.stay(0, 0, true);
        Check.told("18: the only jar", inn, 1, () -> inn.harm(1));
        inn.stay(2, 0, true);
        Check.told("18: the worse jar", inn, 2, () -> inn.harm(1));
        inn.stay(1, 0, true);
        Check.told("18: of several the smallest", inn, 2, () -> inn.harm(1));
        inn.move(3, 0);
        inn.move(1, 1);
        Check.told("18: of several the smallest", inn, 1, () -> inn.harm(1));
        inn.leave(1);
        Check.told("18: who has left has no jar", inn, 2, () -> inn.harm(1));
        inn.leave(2);
        Check.told("18: the last one", inn, 3, () -> inn.harm(1));
        inn.pass(1);
        Check.told("18: it was found", inn, -1, () -> inn.harm(30));

        // With the jar of one gone, the other takes as many.
        FireflyInn little = Inns.withDarkRooms(0, 5);
        little.swarm(5, 0, 3);
        little.stay(1, 0, true);
        little.stay(1, 0, true);
        Check.told("18: no more without any", little, -1, () -> little.harm(1));

        // What is taken of 3 is missed for good, what is taken of 30 grows again.
        FireflyInn growing = Inns.withDarkRooms(0, 5, 9);
        growing.swarm(5, 0, 3);
        growing.swarm(9, 0, 30);
        growing.stay(1, 0, true);
        growing.stay(2, 0, true);
        Check.told("18: behind one night", growing, 1, () -> growing.harm(1));
        Check.told("18: behind 30 nights", growing, 0, () -> growing.harm(30));
        FireflyInn empty = Inns.withDarkRooms(1, 0);
        empty.swarm(5, 0, 10);
        empty.stay(1, 0, true);
        Check.told("18: a jar where there are none", empty, -1, () -> empty.harm(2));
        for (int bad : new int[] {0, -1, 31, 60, Integer.MIN_VALUE, Integer.MAX_VALUE}) {
            Check.refused("18: nights " + bad, inn, Check.ARGUMENT, () -> inn.harm(bad));
        }
    }

    private static void promise19() {
        FireflyInn inn = Inns.withDarkRooms(5);
        Check.told("19: without guests", inn, 0.0, () -> inn.mean());
        inn.swarm(5, 0, 9);
        inn.stay(0, 0, false);
        Check.told("19: nothing seen", inn, 0.0, () -> inn.mean());
        inn.pass(1);
        inn.stay(0, 0, false);
        Check.told("19: not cut", inn, 4.5, () -> inn.mean());
        inn.leave(0);
        Check.told("19: also those who have left", inn, 4.5, () -> inn.mean());
        inn.pass(1);
        inn.stay(0, 0, false);
        Check.told("19: 13 by 3", inn, 13.0 / 3.0, () -> inn.mean());
    }

    private static void promise20() {
        FireflyInn empty = new FireflyInn();
        long d = 1093;
        for (int i = 0; i < 9 + 50; i++) {
            d = d * 31;
        }
        Check.same("20: a new inn", empty.digest(), d);

        FireflyInn inn = Inns.withRooms(7);
        inn.swarm(3, 4, 5);
        inn.stay(0, 6, true);
        inn.pass(1);
        long[] counts = {1, 1, 5, 1, 1, 1, 0, 1, 3};
        long e = 1093;
        for (long x : counts) {
            e = e * 31 + x;
        }
        for (int i = 0; i < 50; i++) {
            e = e * 31 + (i == 43 ? 5 : 0);
        }
        for (long x : new long[] {7, 1, 1, 6, 0, 0, 6, 0, 0, 0, 0}) {
            e = e * 31 + x;
        }
        long due = e;
        Check.same("20: reckoned again", inn.digest(), due);
        Check.told("20: nothing changes", inn, due, () -> inn.digest());
    }
}
