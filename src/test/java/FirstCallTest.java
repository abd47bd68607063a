/** Each call of the face as the first one on a new object: what it answers, and for refused ones that all stays new. */
final class FirstCallTest {
    private static final Due DUE = new Due("first calls");

    public static void main(String[] args) {
        for (int wheels = 2; wheels <= 8; wheels++) {
            wheelFirst(wheels);
            stepFirst(wheels);
            phaseFirst(wheels);
            pressureFirst(wheels);
            yawFirst(wheels);
            slipFirst(wheels);
            gearFirst(wheels);
            lostFirst(wheels);
            holdFirst(wheels);
            wishFirst(wheels);
            referenceFirst(wheels);
            plantFirst(wheels);
            boundFirst(wheels);
            modeFirst(wheels);
        }
        newObjectsAreAlike();
        DUE.end();
    }

    private static void wheelFirst(int wheels) {
        DUE.by("first: wheel");
        DUE.is("wheel(1, 0)", new GearBrake(wheels).wheel(1, 0), 1);
        DUE.is("wheel(last, 1000)", new GearBrake(wheels).wheel(wheels, 1000), 1);
        DUE.is("wheel(0, 0)", new GearBrake(wheels).wheel(0, 0), -1);
        DUE.is("wheel(last + 1, 0)", new GearBrake(wheels).wheel(wheels + 1, 0), -1);
        DUE.is("wheel(1, -1)", new GearBrake(wheels).wheel(1, -1), -2);
        DUE.is("wheel(last, 1001)", new GearBrake(wheels).wheel(wheels, 1001), -2);
    }

    private static void stepFirst(int wheels) {
        DUE.by("first: step");
        DUE.is("step(0, 0)", new GearBrake(wheels).step(0, 0), 1);
        DUE.is("step(100, 30)", new GearBrake(wheels).step(100, 30), 1);
        DUE.is("step(100, -30)", new GearBrake(wheels).step(100, -30), 1);
        DUE.is("step(-1, 0)", new GearBrake(wheels).step(-1, 0), -2);
        DUE.is("step(101, 0)", new GearBrake(wheels).step(101, 0), -2);
        DUE.is("step(0, -31)", new GearBrake(wheels).step(0, -31), -2);
        DUE.is("step(0, 31)", new GearBrake(wheels).step(0, 31), -2);
        GearBrake car = new GearBrake(wheels);
        car.step(70, 0);
        for (int w = 1; w <= wheels; w++) {
            DUE.wheelIs(car, w, Cars.FREE, 70);
            DUE.isModel("plant(" + w + ")", car.plant(w), 0.0);
        }
        DUE.is("reference()", car.reference(), 0);
        DUE.is("mode()", car.mode(), 0);
    }

    private static void phaseFirst(int wheels) {
        DUE.by("a PHASE, 0 FREE (at first)");
        DUE.is("phase(1)", new GearBrake(wheels).phase(1), 0);
        DUE.is("phase(last)", new GearBrake(wheels).phase(wheels), 0);
        DUE.is("phase(0)", new GearBrake(wheels).phase(0), -1);
        DUE.is("phase(last + 1)", new GearBrake(wheels).phase(wheels + 1), -1);
    }

    private static void pressureFirst(int wheels) {
        DUE.by("a PRESSURE, at first 0");
        DUE.is("pressure(1)", new GearBrake(wheels).pressure(1), 0);
        DUE.is("pressure(last)", new GearBrake(wheels).pressure(wheels), 0);
        DUE.is("pressure(0)", new GearBrake(wheels).pressure(0), -1);
        DUE.is("pressure(last + 1)", new GearBrake(wheels).pressure(wheels + 1), -1);
    }

    private static void yawFirst(int wheels) {
        DUE.by("first: yaw");
        DUE.is("yaw(0, 0)", new GearBrake(wheels).yaw(0, 0), 0);
        DUE.is("yaw(20, 0)", new GearBrake(wheels).yaw(20, 0), 0);
        DUE.is("yaw(21, 0)", new GearBrake(wheels).yaw(21, 0), 2);
        DUE.is("yaw(0, 21)", new GearBrake(wheels).yaw(0, 21), 1);
        DUE.is("yaw(1000, -1000)", new GearBrake(wheels).yaw(1000, -1000), 2);
        DUE.is("yaw(1001, 0)", new GearBrake(wheels).yaw(1001, 0), -2);
        DUE.is("yaw(0, -1001)", new GearBrake(wheels).yaw(0, -1001), -2);
    }

    private static void slipFirst(int wheels) {
        DUE.by("first: slip");
        DUE.slipThrows(new GearBrake(wheels), 1, 0);
        DUE.slipThrows(new GearBrake(wheels), wheels, 1);
        DUE.is("slip(0, 0)", new GearBrake(wheels).slip(0, 0), 0);
        DUE.is("slip(last + 1, 1)", new GearBrake(wheels).slip(wheels + 1, 1), 0);
    }

    private static void gearFirst(int wheels) {
        DUE.by("the GEAR 1 .. 6, at first 1");
        DUE.is("gear()", new GearBrake(wheels).gear(), 1);
    }

    private static void lostFirst(int wheels) {
        DUE.by("first: lost");
        DUE.is("lost(1, true)", new GearBrake(wheels).lost(1, true), 1);
        DUE.is("lost(last, true)", new GearBrake(wheels).lost(wheels, true), 1);
        DUE.is("lost(1, false)", new GearBrake(wheels).lost(1, false), 0);
        DUE.is("lost(0, true)", new GearBrake(wheels).lost(0, true), -1);
        DUE.is("lost(last + 1, false)", new GearBrake(wheels).lost(wheels + 1, false), -1);
    }

    private static void holdFirst(int wheels) {
        DUE.by("first: hold");
        DUE.is("hold(true)", new GearBrake(wheels).hold(true), 1);
        DUE.is("hold(false)", new GearBrake(wheels).hold(false), 0);
    }

    private static void wishFirst(int wheels) {
        DUE.by("first: wish");
        DUE.is("wish(0)", new GearBrake(wheels).wish(0), -2);
        DUE.is("wish(1)", new GearBrake(wheels).wish(1), 1);
        for (int gear = 2; gear <= 6; gear++) {
            DUE.is("wish(" + gear + ")", new GearBrake(wheels).wish(gear), 0);
        }
        DUE.is("wish(7)", new GearBrake(wheels).wish(7), -2);
    }

    private static void referenceFirst(int wheels) {
        DUE.by("The REFERENCE is a speed, at first 0");
        DUE.is("reference()", new GearBrake(wheels).reference(), 0);
    }

    private static void plantFirst(int wheels) {
        DUE.by("a MODEL, a double, at first 0");
        DUE.isModel("plant(1)", new GearBrake(wheels).plant(1), 0.0);
        DUE.isModel("plant(last)", new GearBrake(wheels).plant(wheels), 0.0);
        DUE.isModel("plant(0)", new GearBrake(wheels).plant(0), 0.0);
        DUE.isModel("plant(last + 1)", new GearBrake(wheels).plant(wheels + 1), 0.0);
    }

    private static void boundFirst(int wheels) {
        DUE.by("first: bound");
        DUE.is("bound(1, 0)", new GearBrake(wheels).bound(1, 0), 1);
        DUE.is("bound(last, 200)", new GearBrake(wheels).bound(wheels, 200), 1);
        DUE.is("bound(0, 0)", new GearBrake(wheels).bound(0, 0), -1);
        DUE.is("bound(last + 1, 0)", new GearBrake(wheels).bound(wheels + 1, 0), -1);
        DUE.is("bound(1, -1)", new GearBrake(wheels).bound(1, -1), -2);
        DUE.is("bound(last, 201)", new GearBrake(wheels).bound(wheels, 201), -2);
    }

    private static void modeFirst(int wheels) {
        DUE.by("first: mode");
        DUE.is("mode()", new GearBrake(wheels).mode(), 0);
    }

    /** A state that objects shared would make the second one other than new. */
    private static void newObjectsAreAlike() {
        DUE.by("A new object: after another one was used");
        String fresh = States.told(new GearBrake(4));
        GearBrake used = Cars.braking(4);
        used.lost(2, true);
        used.hold(true);
        used.wish(1);
        used.bound(1, 3);
        used.yaw(0, 100);
        String usedBefore = States.told(used);
        GearBrake next = new GearBrake(4);
        DUE.isText("a new object", States.told(next), fresh);
        DUE.isText("the used object", States.told(used), usedBefore);
        next.wheel(1, 500);
        next.step(0, 0);
        DUE.isText("the used object, after the new one's step", States.told(used), usedBefore);
    }
}
