import java.util.Random;

/** Runs of calls, the same ones on a MixedCells and on the Model; all promises. */
public final class ModelTest {
    private static final String[] CALLS = {
        "put", "put", "put", "put", "take", "clear", "point", "hull", "corner", "sum", "sumCorner", "cells",
        "cell", "slope", "low", "fan", "roots", "image", "restore", "count",
    };

    private final MixedCells real = new MixedCells();
    private final Model model = new Model();
    private final Random random;
    private final int widest;
    private final int heaviest;
    private final String name;

    private ModelTest(int seed) {
        random = new Random(seed);
        // Narrow ones have many points on one line, and many low points at once.
        widest = new int[] {2, 3, 6, 12}[seed % 4];
        heaviest = new int[] {0, 2, 9, 50}[seed / 4 % 4];
        name = "run " + seed;
    }

    public static void main(String[] args) {
        for (int seed = 0; seed < 64; seed++) {
            new ModelTest(seed).calls(200);
        }
        for (int seed = 64; seed < 112; seed++) {
            new ModelTest(seed).allOfTwoBodies();
        }
        // Two objects, since one is used for 512 calls at most.
        new ModelTest(3).mostCells("cell", 5);
        new ModelTest(3).mostCells("slope", 4);
        Due.end();
    }

    private void calls(int many) {
        for (int i = 0; i < many; i++) {
            oneCall(i);
        }
    }

    /* Now and then one that is wrong. */
    private int number(int least, int most) {
        if (random.nextInt(40) == 0) {
            return random.nextBoolean() ? least - 1 : most + 1;
        }
        return least + random.nextInt(most - least + 1);
    }

    private void oneCall(int i) {
        String call = CALLS[random.nextInt(CALLS.length)];
        // Taking away much would leave nothing to ask of.
        if (call.equals("clear") && random.nextInt(3) > 0) {
            call = "put";
        }
        int a = number(0, 3);
        int b = number(0, 3);
        int[] n = arguments(call);
        String told = name + ", call " + i + ": " + call + "(" + a + ", " + b + ", .. " + n[0] + ", " + n[1] + ", " + n[2];
        Due.is(told, answer(call, a, b, n), due(call, a, b, n));
    }

    private int[] arguments(String call) {
        switch (call) {
            case "put":
                return new int[] {number(0, widest), number(0, widest), number(0, heaviest)};
            case "take":
                return new int[] {number(0, 6), 0, 0};
            case "point":
                return new int[] {number(0, 6), number(0, 2), 0};
            case "hull":
                return new int[] {number(0, 4), 0, 0};
            case "corner":
                return new int[] {number(0, 6), 0, 0};
            case "sum":
                return new int[] {number(0, 3), 0, 0};
            case "sumCorner":
                return new int[] {number(0, 7), number(0, 1), 0};
            case "cells":
                return new int[] {random.nextBoolean() ? number(0, 2) : number(102, 122), 0, 0};
            case "cell":
                return new int[] {number(0, 12), number(0, 4), 0};
            case "slope":
                return new int[] {number(0, 12), number(0, 3), 0};
            case "low":
                return random.nextBoolean()
                        ? new int[] {number(-3, 3), number(-3, 3), 0}
                        : new int[] {number(-1000, 1000), number(-1000, 1000), 0};
            case "fan":
                return new int[] {number(0, 2), 0, 0};
            case "roots":
                return new int[] {new int[] {2, 3, 5, 7, 11, 13, number(1, 13)}[random.nextInt(7)], 0, 0};
            case "count":
                return new int[] {number(0, 6), 0, 0};
            default:
                return new int[] {number(0, 1), 0, 0};
        }
    }

    private int answer(String call, int a, int b, int[] n) {
        switch (call) {
            case "put": return real.put(a, n[0], n[1], n[2]);
            case "take": return real.take(a, n[0]);
            case "clear": return real.clear(a);
            case "point": return real.point(a, n[0], n[1]);
            case "hull": return real.hull(a, n[0]);
            case "corner": return real.corner(a, n[0]);
            case "sum": return real.sum(a, b, n[0]);
            case "sumCorner": return real.sumCorner(a, b, n[0], n[1]);
            case "cells": return real.cells(a, b, n[0]);
            case "cell": return real.cell(a, b, n[0], n[1]);
            case "slope": return real.slope(a, b, n[0], n[1]);
            case "low": return real.low(a, n[0], n[1]);
            case "fan": return real.fan(a, n[0]);
            case "roots": return real.roots(a, b, n[0]);
            case "image": return real.image(n[0]);
            case "restore": return real.restore(n[0]);
            default: return real.count(n[0]);
        }
    }

    private int due(String call, int a, int b, int[] n) {
        switch (call) {
            case "put": return model.put(a, n[0], n[1], n[2]);
            case "take": return model.take(a, n[0]);
            case "clear": return model.clear(a);
            case "point": return model.point(a, n[0], n[1]);
            case "hull": return model.hull(a, n[0]);
            case "corner": return model.corner(a, n[0]);
            case "sum": return model.sum(a, b, n[0]);
            case "sumCorner": return model.sumCorner(a, b, n[0], n[1]);
            case "cells": return model.cells(a, b, n[0]);
            case "cell": return model.cell(a, b, n[0], n[1]);
            case "slope": return model.slope(a, b, n[0], n[1]);
            case "low": return model.low(a, n[0], n[1]);
            case "fan": return model.fan(a, n[0]);
            case "roots": return model.roots(a, b, n[0]);
            case "image": return model.image(n[0]);
            case "restore": return model.restore(n[0]);
            default: return model.count(n[0]);
        }
    }

    private void both(String call, int a, int b, int... n) {
        Due.is(name + ": " + call + "(" + a + ", " + b + ", .. " + n[0] + ", " + n[1] + ", " + n[2],
                answer(call, a, b, n), due(call, a, b, n));
    }

    /* Of two bodies that are as good as full, all that can be asked. */
    private void allOfTwoBodies() {
        for (int i = 0; i < 14; i++) {
            both("put", i % 2, 0, random.nextInt(widest + 1), random.nextInt(widest + 1), random.nextInt(heaviest + 1));
        }
        for (int body = 0; body < 2; body++) {
            for (int what = 0; what < 5; what++) {
                both("hull", body, 0, what, 0, 0);
            }
            for (int i = 0; i < 8; i++) {
                both("corner", body, 0, i, 0, 0);
            }
            for (int what = 0; what < 3; what++) {
                both("fan", body, 0, what, 0, 0);
            }
        }
        for (int what = 0; what < 4; what++) {
            both("sum", 0, 1, what, 0, 0);
        }
        for (int what : new int[] {0, 1, 2, 102, 111, 112, 120, 121, 122}) {
            both("cells", 0, 1, what, 0, 0);
            both("cells", 1, 1, what, 0, 0);
        }
        int many = real.cells(0, 1, 0);
        for (int i = 0; i <= many && i < 40; i++) {
            for (int what = 0; what < 5; what++) {
                both("cell", 0, 1, i, what, 0);
            }
            for (int what = 0; what < 4; what++) {
                both("slope", 0, 1, i, what, 0);
            }
        }
        cellsFillTheSum();
    }

    /* Two full bodies of 53 cells: the most that a long search has found. */
    private void mostCells(String call, int whats) {
        int[] first = {10, 10, 25, 2, 2, 17, 4, 6, 5, 12, 11, 36, 5, 8, 6, 0, 0, 47, 3, 4, 7};
        int[] second = {6, 1, 1, 5, 2, 0, 2, 8, 12, 4, 4, 3, 0, 10, 43, 1, 9, 27, 12, 0, 26};
        for (int i = 0; i < 21; i += 3) {
            both("put", 0, 0, first[i], first[i + 1], first[i + 2]);
            both("put", 1, 0, second[i], second[i + 1], second[i + 2]);
        }
        Due.is(name + ": the most cells", real.cells(0, 1, 0), 53);
        for (int i = -1; i <= 53; i++) {
            for (int what = 0; what < whats; what++) {
                both(call, 0, 1, i, what, 0);
            }
        }
        cellsFillTheSum();
    }

    private void cellsFillTheSum() {
        Due.is(name + ": the areas of the cells fill the sum", real.cells(0, 1, 1), real.sum(0, 1, 1));
        Due.is(name + ": so do their mixed areas", real.cells(0, 1, 2), real.sum(0, 1, 3));
    }
}
