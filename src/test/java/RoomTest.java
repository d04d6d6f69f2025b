import java.lang.management.ManagementFactory;
import java.lang.reflect.Array;
import java.lang.reflect.Field;
import java.lang.reflect.Modifier;
import java.util.ArrayDeque;
import java.util.IdentityHashMap;
import java.util.Map;
import java.util.NoSuchElementException;

/**
 * The rule on what a run makes: rows are made in constructors and used again. So a call that answers makes nothing
 * at all, one that throws makes its exception alone, and the object holds the same rows from its first call to its
 * last. What a call makes is told by the Java machine itself, in bytes.
 */
public final class RoomTest {
    private static final long OBJECTS_OF_ROOM = 600_000;
    private static final long PARTS_OF_ROOM = 7_300_000;
    private static final long CALLS = 512;
    /** No object takes less, so that bytes tell how many objects there are at most. */
    private static final long LEAST_BYTES_OF_OBJECT = 16;

    /** All calls of the face, in an order in which each answers. */
    private static final String[] ANSWERED = {
        "reset", "poke", "pokeRom", "pokeCartridge", "peek", "ram", "assemble", "writeLine", "lineAt", "compare",
        "register", "setRegister", "status", "run", "step", "cycle", "isPictures", "underWay", "done",
        "isJammed", "traceAt", "pixel", "pixelAgain", "sample", "level", "key", "columns", "joystick", "addPulse",
        "rewind", "pulsesLeft", "save", "restore", "differences", "startRecord", "recorded", "run", "isSame",
        "sumOfPicture", "pictures", "solidShare", "meanSample", "freeze", "step"};
    private static final String[] REFUSED = {
        "poke", "pokeRom", "pokeCartridge", "peek", "ram", "assemble", "writeLine", "lineAt", "compare", "register",
        "setRegister", "run", "step", "traceAt", "pixel", "pixelAgain", "sample", "level", "key", "columns",
        "joystick", "addPulse", "save", "restore", "differences", "recorded", "isSame"};

    private static final com.sun.management.ThreadMXBean METER =
        ManagementFactory.getPlatformMXBean(com.sun.management.ThreadMXBean.class);

    private RoomTest() {
    }

    public static void main(String[] args) {
        Due.by("make rows in constructors and use them again");
        // The first calls of a program load classes, which is not what the calls themselves make.
        Rasterbox first = new Rasterbox();
        answers(first);
        dearestRefusal(first);

        Rasterbox box = new Rasterbox();
        Map<Object, Object> made = allIn(box);
        long parts = partsOf(made);
        answersMakeNothing(box, "first");
        answersMakeNothing(box, "second");
        long dearest = dearestRefusal(box);
        answersKeepNothing(box, made, parts);
        roomHolds(made.size(), parts, dearest);
        Due.end("RoomTest");
    }

    private static void answers(Rasterbox box) {
        for (String name : ANSWERED) {
            bytesOfAnswer(box, name);
        }
    }

    private static void answersMakeNothing(Rasterbox box, String time) {
        for (String name : ANSWERED) {
            long bytes = bytesOfAnswer(box, name);
            Due.is("the bytes that the " + time + " " + name + "() has made: they", bytes, 0);
        }
    }

    private static long dearestRefusal(Rasterbox box) {
        letRefuse(box);
        long dearest = 0;
        for (String name : REFUSED) {
            long bytes = bytesOfRefusal(box, name);
            Due.is(name + "() throws: this", bytes > 0, true);
            dearest = bytes > dearest ? bytes : dearest;
        }
        return dearest;
    }

    /** Makes a machine with all snapshots and without a record, whose processor is jammed. */
    private static void letRefuse(Rasterbox box) {
        for (int i = 0; i < 3; i++) {
            try {
                box.save();
            } catch (IllegalStateException e) {
                break;
            }
        }
        box.restore(0);
        box.reset();
        box.poke(2000, Boxes.code("jam"));
        box.setRegister(Boxes.P, 2000);
        box.run(100);
    }

    private static void answersKeepNothing(Rasterbox box, Map<Object, Object> made, long parts) {
        Map<Object, Object> kept = allIn(box);
        Due.is("fields and elements behind all calls", partsOf(kept), parts);
        int others = 0;
        for (Object row : kept.keySet()) {
            others += made.containsKey(row) ? 0 : 1;
        }
        Due.is("the objects and arrays that calls have made and the machine has kept: they", others, 0);
    }

    private static void roomHolds(long objects, long parts, long dearest) {
        // Each field and each element takes at least one byte.
        Due.is("the room holds the fields and elements: this", parts + CALLS * dearest <= PARTS_OF_ROOM, true);
        long objectsOfCalls = CALLS * (dearest / LEAST_BYTES_OF_OBJECT);
        Due.is("the room holds the objects: this", objects + objectsOfCalls <= OBJECTS_OF_ROOM, true);
    }

    private static long bytesOfAnswer(Rasterbox box, String name) {
        long before = METER.getCurrentThreadAllocatedBytes();
        answer(box, name);
        return METER.getCurrentThreadAllocatedBytes() - before;
    }

    private static long bytesOfRefusal(Rasterbox box, String name) {
        long before = METER.getCurrentThreadAllocatedBytes();
        try {
            refuse(box, name);
        } catch (IllegalStateException | IllegalArgumentException | IndexOutOfBoundsException
                | NoSuchElementException e) {
            return METER.getCurrentThreadAllocatedBytes() - before;
        }
        return 0;
    }

    private static void answer(Rasterbox box, String name) {
        switch (name) {
            case "poke": box.poke(Boxes.MODE, 2); break;
            case "pokeRom": box.pokeRom(511, 255); break;
            case "pokeCartridge": box.pokeCartridge(3, 511, 255); break;
            case "peek": box.peek(4095); break;
            case "ram": box.ram(4095); break;
            // lda (255),y, with the longest line that there is
            case "assemble": box.assemble(1000, 6, 255); break;
            case "writeLine": box.writeLine(1000); break;
            case "lineAt": box.lineAt(15); break;
            case "compare": box.compare(0, 1, 4096); break;
            case "register": box.register(4); break;
            case "setRegister": box.setRegister(4, 1000); break;
            case "status": box.status(); break;
            case "reset": box.reset(); break;
            case "freeze": box.freeze(); break;
            case "run": box.run(1000); break;
            case "step": box.step(); break;
            case "cycle": box.cycle(); break;
            case "isPictures": box.isPictures(); break;
            case "underWay": box.underWay(); break;
            case "done": box.done(); break;
            case "isJammed": box.isJammed(); break;
            default: answerOnward(box, name); break;
        }
    }

    private static void answerOnward(Rasterbox box, String name) {
        switch (name) {
            case "traceAt": box.traceAt(15); break;
            case "pixel": box.pixel(31, 31); break;
            case "pixelAgain": box.pixelAgain(31, 31); break;
            case "sample": box.sample(39); break;
            case "level": box.level(2); break;
            case "key": box.key(3, 3, true); break;
            case "columns": box.columns(15); break;
            case "joystick": box.joystick(15); break;
            case "addPulse": box.addPulse(999); break;
            case "rewind": box.rewind(); break;
            case "pulsesLeft": box.pulsesLeft(); break;
            case "save": box.save(); break;
            case "restore": box.restore(0); break;
            case "differences": box.differences(0); break;
            case "startRecord": box.startRecord(); break;
            case "recorded": box.recorded(); break;
            case "isSame": box.isSame(); break;
            case "sumOfPicture": box.sumOfPicture(); break;
            case "pictures": box.pictures(); break;
            case "solidShare": box.solidShare(); break;
            case "meanSample": box.meanSample(); break;
            default: throw new UnsupportedOperationException(name);
        }
    }

    private static void refuse(Rasterbox box, String name) {
        switch (name) {
            case "poke": box.poke(4096, 0); break;
            case "pokeRom": box.pokeRom(512, 0); break;
            case "pokeCartridge": box.pokeCartridge(4, 0, 0); break;
            case "peek": box.peek(4096); break;
            case "ram": box.ram(4096); break;
            case "assemble": box.assemble(0, 256, 0); break;
            case "writeLine": box.writeLine(4096); break;
            case "lineAt": box.lineAt(16); break;
            case "compare": box.compare(0, 0, 4097); break;
            case "register": box.register(5); break;
            case "setRegister": box.setRegister(0, 256); break;
            case "run": box.run(1001); break;
            case "traceAt": box.traceAt(16); break;
            case "pixel": box.pixel(32, 0); break;
            case "pixelAgain": box.pixelAgain(32, 0); break;
            case "sample": box.sample(40); break;
            case "level": box.level(3); break;
            case "key": box.key(4, 0, true); break;
            case "columns": box.columns(16); break;
            case "joystick": box.joystick(16); break;
            case "addPulse": box.addPulse(1000); break;
            case "restore": box.restore(3); break;
            case "differences": box.differences(3); break;
            // The others are refused by the state of the machine.
            default: answer(box, name); break;
        }
    }

    /** All objects and arrays that a machine is made of. */
    private static Map<Object, Object> allIn(Rasterbox box) {
        Map<Object, Object> found = new IdentityHashMap<>();
        ArrayDeque<Object> left = new ArrayDeque<>();
        found.put(box, box);
        left.add(box);
        while (!left.isEmpty()) {
            Object whole = left.remove();
            for (Object part : whole instanceof Object[] ? (Object[]) whole : referencesOf(whole)) {
                if (part != null && found.put(part, part) == null) {
                    left.add(part);
                }
            }
        }
        return found;
    }

    private static Object[] referencesOf(Object whole) {
        Field[] fields = fieldsOf(whole.getClass());
        Object[] references = new Object[fields.length];
        try {
            for (int i = 0; i < fields.length; i++) {
                if (!Modifier.isStatic(fields[i].getModifiers()) && !fields[i].getType().isPrimitive()) {
                    fields[i].setAccessible(true);
                    references[i] = fields[i].get(whole);
                }
            }
        } catch (IllegalAccessException e) {
            Due.tell("a field cannot be looked at: " + e.getMessage());
        }
        return references;
    }

    /** The fields of a class inside Rasterbox, or of itself; none for arrays and for what the library has. */
    private static Field[] fieldsOf(Class<?> type) {
        boolean isOwn = !type.isArray() && type.getName().startsWith("Rasterbox");
        return isOwn ? type.getDeclaredFields() : new Field[0];
    }

    private static long partsOf(Map<Object, Object> all) {
        long parts = 0;
        for (Object one : all.keySet()) {
            if (one.getClass().isArray()) {
                parts += Array.getLength(one);
            } else if (one instanceof StringBuilder) {
                parts += ((StringBuilder) one).capacity();
            }
            for (Field field : fieldsOf(one.getClass())) {
                parts += Modifier.isStatic(field.getModifiers()) ? 0 : 1;
            }
        }
        return parts;
    }
}
